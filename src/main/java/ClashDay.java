/** The clash day planner of DOC.md: the face looks at what is asked, the classes inside do it. */
public final class ClashDay {
    public static final int NONE = -1;

    /** What is answered where NONE would say something else. */
    private static final int NOT_SO = -2;
    private static final int NOT_ASKED = -3;

    private static final int PAPERS = 5;
    private static final int CANDIDATES = 6;
    private static final int SLOTS = 30;
    private static final int FIRST_DAY = 20;
    private static final int ALL_SLOTS = (1 << SLOTS) - 1;
    private static final int FIRST_DAY_SLOTS = (1 << FIRST_DAY) - 1;
    private static final int LAST_START = 15;
    private static final int MOST_TAKEN = 9;
    private static final int MOST_DELAY = 9;
    private static final int MOST_EXTRA = 100;
    private static final int MOST_REST = 3;
    private static final int RULES = 6;
    private static final int IMAGES = 4;
    private static final int MOST_UNDONE = 20;
    private static final int LAST_TURN = 999;
    private static final int LAST_NOTED_TURN = 9;
    private static final int TURNS_AHEAD = 20;
    private static final int MOST_PENCE = 9999;

    private final Tape tape = new Tape();
    private final DayReader dayReader = new DayReader(tape);
    private final RuleReader ruleReader = new RuleReader(tape);
    private final Rule[] rules = new Rule[RULES];
    private int ruleCount;
    private final Scene scene = new Scene();
    private final Scene[] images = new Scene[IMAGES];
    private final Board[] past = new Board[MOST_UNDONE];
    private int pastCount;
    private final Board drawnUp = new Board();
    private final Planner planner = new Planner();
    private final Turns turns = new Turns(planner);
    private final Trials trials = new Trials(planner, turns);
    private final Lines lines = new Lines();

    public ClashDay() {
        for (int i = 0; i < RULES; i++) {
            rules[i] = new Rule();
        }
        for (int i = 0; i < IMAGES; i++) {
            images[i] = new Scene();
        }
        for (int i = 0; i < MOST_UNDONE; i++) {
            past[i] = new Board();
        }
    }

    public int feed(int a, int b, int c, int d, int e) {
        if (!tape.hasRoom(20)) {
            return NONE;
        }
        tape.append(a);
        tape.append(b);
        tape.append(c);
        tape.append(d);
        tape.append(e);
        return tape.size;
    }

    public int end(int n) {
        if (n < 0 || n > tape.size) {
            return NONE;
        }
        tape.size = n;
        return n;
    }

    public int day() {
        int fault = dayReader.read(drawnUp);
        tape.size = 0;
        if (fault != 0) {
            return -2 - fault;
        }
        scene.told.copyFrom(drawnUp);
        scene.now.copyFrom(drawnUp);
        scene.notes.size = 0;
        pastCount = 0;
        return scene.now.candidates;
    }

    public int rule() {
        if (ruleCount >= RULES) {
            return NONE;
        }
        int fault = ruleReader.read(rules[ruleCount]);
        tape.size = 0;
        if (fault != 0) {
            return -2 - fault;
        }
        ruleCount++;
        return ruleCount - 1;
    }

    public int force(int rule) {
        if (rule < NONE || rule >= ruleCount) {
            return NOT_SO;
        }
        int was = scene.inForce;
        scene.inForce = rule;
        return was;
    }

    public int paper(int paper, int what) {
        Board now = scene.now;
        if (!now.hasPaper(paper)) {
            return NONE;
        }
        switch (what) {
            case 0: return now.start[paper];
            case 1: return now.length[paper];
            case 2: return now.sittersOf(paper);
            default: return NONE;
        }
    }

    public int candidate(int candidate, int what) {
        Board now = scene.now;
        if (!now.hasCandidate(candidate)) {
            return NONE;
        }
        switch (what) {
            case 0: return now.sits[candidate];
            case 1: return now.extra[candidate];
            case 2: return now.rest[candidate];
            case 3: return now.waits(candidate) ? 1 : 0;
            default: return NONE;
        }
    }

    public int free(int slot) {
        if (!scene.now.isDay() || !isSlot(slot)) {
            return NONE;
        }
        return scene.now.freeSeats(slot);
    }

    public int time(int candidate, int paper) {
        Board now = scene.now;
        if (!now.hasCandidate(candidate) || !now.hasPaper(paper) || !now.sitsIn(candidate, paper)) {
            return NONE;
        }
        return now.timeOf(candidate, paper);
    }

    public int turn() {
        if (!scene.now.isDay() || scene.now.turn >= LAST_TURN) {
            return NONE;
        }
        remember();
        return turns.step(scene.now, ruleInForce());
    }

    public int plan(int candidate) {
        Board now = scene.now;
        if (!now.waits(candidate) || !planner.finds(now, candidate, now.sits[candidate])) {
            return NONE;
        }
        remember();
        now.adopt(candidate, planner);
        return planner.lastEnd;
    }

    public int drop(int candidate) {
        if (!scene.now.isPlanned(candidate)) {
            return NONE;
        }
        remember();
        scene.now.release(candidate);
        return Integer.bitCount(scene.now.waiting());
    }

    public int delay(int paper, int slots) {
        Board now = scene.now;
        if (slots < 1 || slots > MOST_DELAY || !now.canBeLater(paper)) {
            return NONE;
        }
        remember();
        now.postpone(paper, slots);
        return now.start[paper];
    }

    public int take(int slot, int seats) {
        Board now = scene.now;
        if (!now.isDay() || !isSlot(slot) || seats < 0 || seats > MOST_TAKEN || now.taken[slot] == seats) {
            return NONE;
        }
        remember();
        int were = now.taken[slot];
        now.taken[slot] = seats;
        return were;
    }

    public int undo() {
        if (pastCount == 0) {
            return NONE;
        }
        pastCount--;
        scene.now.copyFrom(past[pastCount]);
        return pastCount;
    }

    public int begins(int candidate, int paper) {
        Board now = scene.now;
        if (!now.isPlanned(candidate) || !now.hasPaper(paper)) {
            return NONE;
        }
        return now.sitsIn(candidate, paper) ? now.beginOf(candidate, paper) : NOT_SO;
    }

    public int could(int candidate, int what) {
        Board now = scene.now;
        if (!now.waits(candidate) || what < 0 || what > 7) {
            return NOT_ASKED;
        }
        if (!planner.finds(now, candidate, now.sits[candidate])) {
            return NOT_SO;
        }
        switch (what) {
            case 0: return planner.nights;
            case 1: return Integer.bitCount(planner.kept);
            case 2: return planner.lastEnd;
            default: return planner.begin[what - 3];
        }
    }

    public int orders(int candidate) {
        Board now = scene.now;
        if (!now.waits(candidate)) {
            return NONE;
        }
        planner.finds(now, candidate, now.sits[candidate]);
        return planner.ways;
    }

    public int clash(int candidate, int what) {
        Board now = scene.now;
        if (!now.waits(candidate) || what < 0 || what > 1) {
            return NONE;
        }
        if (planner.finds(now, candidate, now.sits[candidate])) {
            return NOT_SO;
        }
        int set = planner.leastClash(now, candidate);
        return what == 0 ? Integer.bitCount(set) : set;
    }

    public int line(int candidate, int slot) {
        if (!scene.now.isPlanned(candidate) || !isSlot(slot)) {
            return NONE;
        }
        return Lines.sign(scene.now, candidate, slot);
    }

    public int spelt(int candidate, int place) {
        if (!scene.now.isPlanned(candidate) || place < NONE) {
            return NONE;
        }
        lines.spell(scene.now, candidate, 0);
        if (place == NONE) {
            return lines.sizes[0];
        }
        return place < lines.sizes[0] ? lines.signs[0][place] : NOT_SO;
    }

    public int first(int one, int other, int what) {
        Board now = scene.now;
        if (!now.isPlanned(one) || !now.isPlanned(other) || one == other || what < 0 || what > 1) {
            return NONE;
        }
        lines.spell(now, one, 0);
        lines.spell(now, other, 1);
        if (what == 1) {
            return lines.inCommon();
        }
        int ahead = lines.whichAhead();
        return ahead == 0 ? one : ahead == 1 ? other : NOT_SO;
    }

    public int watchers(int n, int what) {
        if (!scene.now.isDay() || n < 1 || n > CANDIDATES || what < 0 || what > 1) {
            return NONE;
        }
        int slot = scene.now.mostKeptSlot(n);
        return what == 1 ? slot : scene.now.watchersIn(slot, n);
    }

    public int chain(int n, int candidate, int slot) {
        Board now = scene.now;
        if (n < 1 || n > CANDIDATES || !now.isPlanned(candidate) || !isSlot(slot)) {
            return NONE;
        }
        return now.keptIn(candidate, slot) ? lines.watcherOf(now, n, candidate, slot) : NOT_SO;
    }

    public int apart(int one, int other) {
        Board now = scene.now;
        if (!now.isPlanned(one) || !now.isPlanned(other) || one == other) {
            return NONE;
        }
        return Integer.bitCount(now.mustNotMeet(one, other));
    }

    public int best(int what) {
        if (!scene.now.isDay() || what < 0 || what > 5) {
            return NOT_SO;
        }
        trials.rankRows(scene.now);
        switch (what) {
            case 0: return trials.bestPlanned;
            case 1: return trials.bestKept;
            default: return trials.bestRow[what - 2];
        }
    }

    public int harm(int n, int what) {
        if (!scene.now.isDay() || n < 1 || n > MOST_DELAY || what < 0 || what > 1) {
            return NONE;
        }
        int paper = trials.worstDelay(scene.now, n);
        if (paper == NONE) {
            return NOT_SO;
        }
        return what == 0 ? paper : trials.harmed(scene.now, paper, n);
    }

    public int ahead(int n, int what) {
        if (!scene.now.isDay() || n < 0 || n > TURNS_AHEAD || what < 0 || what > 2) {
            return NONE;
        }
        Board then = trials.behind(scene.now, ruleInForce(), n);
        switch (what) {
            case 0: return Integer.bitCount(then.planned);
            case 1: return then.keptOfAll();
            default: return ALL_SLOTS & ~then.openSlots();
        }
    }

    public int when(int candidate) {
        if (!scene.now.waits(candidate)) {
            return NONE;
        }
        return trials.turnOf(scene.now, ruleInForce(), candidate);
    }

    public int extras(int candidate, int what) {
        if (!scene.now.hasCandidate(candidate) || what < 0 || what > 1) {
            return NONE;
        }
        int set = trials.extrasAsNoted(scene, ruleInForce(), candidate);
        if (what == 0) {
            return Integer.bitCount(set);
        }
        return set == 0 ? NOT_SO : Trials.EXTRA_STEP * Integer.numberOfTrailingZeros(set);
    }

    public int resting(int candidate) {
        if (!scene.now.hasCandidate(candidate)) {
            return NONE;
        }
        return trials.restsAsNoted(scene, ruleInForce(), candidate);
    }

    public int rests(int one, int other, int what) {
        Board now = scene.now;
        if (!now.waits(one) || !now.waits(other) || one == other || what < 0 || what > 2) {
            return NONE;
        }
        int twos = trials.settledTwos(now, one, other);
        if (what == 0) {
            return Integer.bitCount(twos);
        }
        if (twos == 0) {
            return NOT_SO;
        }
        int two = Integer.numberOfTrailingZeros(twos);
        return what == 1 ? two / Trials.RESTS : two % Trials.RESTS;
    }

    public int pence(int much, int candidate) {
        Board now = scene.now;
        if (much < 0 || much > MOST_PENCE || !now.hasCandidate(candidate)) {
            return NONE;
        }
        return now.waits(candidate) ? 0 : now.shareOf(much, candidate);
    }

    public int note(int n, int slot, int seats) {
        Notes notes = scene.notes;
        if (n == NONE) {
            notes.size = 0;
            return 0;
        }
        boolean canBeNoted = n >= 0 && n <= LAST_NOTED_TURN && isSlot(slot) && seats >= 0 && seats <= MOST_TAKEN;
        if (!scene.now.isDay() || !canBeNoted || notes.isFull()) {
            return NOT_SO;
        }
        notes.append(n, slot, seats);
        return notes.size;
    }

    public int ruled(int what) {
        if (!scene.now.isDay() || what < 0 || what > 1) {
            return NOT_ASKED;
        }
        int set = trials.rulesAsNoted(scene, rules, ruleCount);
        if (what == 0) {
            return Integer.bitCount(set);
        }
        return set == 0 ? NOT_SO : Integer.numberOfTrailingZeros(set) - 1;
    }

    public int look(int n, int what) {
        if (!scene.now.isDay() || n < 0 || n > LAST_NOTED_TURN || what < 0 || what > 1) {
            return NONE;
        }
        int set = trials.rulesAsNoted(scene, rules, ruleCount);
        if (set == 0) {
            return NOT_SO;
        }
        trials.foresee(scene.told, rules, set, n);
        int slot = trials.slotThatParts(set);
        return what == 0 ? slot : trials.mostAlike(set, slot);
    }

    public int seed(int x) {
        if (x < 0) {
            return NONE;
        }
        int was = scene.x;
        scene.x = x;
        return was;
    }

    public int ill(int m, int n, int p, int what) {
        if (!scene.now.isDay() || m < 1 || m > 5 || n < 1 || n > 9 || p < 0 || p > 100 || what < 0 || what > 1) {
            return NONE;
        }
        trials.fallIll(scene, ruleInForce(), m, n, p);
        return what == 0 ? trials.illPlanned : trials.illKept;
    }

    public int count(int what) {
        Board now = scene.now;
        switch (what) {
            case 0: return now.seats;
            case 1: return now.hours;
            case 2: return now.papers;
            case 3: return now.candidates;
            case 4: return ruleCount;
            case 5: return scene.inForce;
            case 6: return now.turn;
            case 7: return now.waiting();
            case 8: return now.keptOfAll();
            case 9: return scene.notes.size;
            case 10: return pastCount;
            case 11: return scene.x;
            case 12: return tape.size;
            default: return NONE;
        }
    }

    public int image(int k) {
        if (k < 0 || k >= IMAGES) {
            return NONE;
        }
        images[k].copyFrom(scene);
        images[k].made = true;
        return scene.now.turn;
    }

    public int back(int k) {
        if (k < 0 || k >= IMAGES || !images[k].made) {
            return NONE;
        }
        scene.copyFrom(images[k]);
        pastCount = 0;
        return scene.now.turn;
    }

    private static boolean isSlot(int slot) {
        return slot >= 0 && slot < SLOTS;
    }

    private Rule ruleInForce() {
        int which = scene.inForce;
        return which < 0 || which >= ruleCount ? null : rules[which];
    }

    /** Keeps what is there ahead of an ACT; the oldest is forgotten, its board used again. */
    private void remember() {
        if (pastCount >= MOST_UNDONE) {
            Board oldest = past[0];
            for (int i = 1; i < MOST_UNDONE; i++) {
                past[i - 1] = past[i];
            }
            past[MOST_UNDONE - 1] = oldest;
            pastCount = MOST_UNDONE - 1;
        }
        past[pastCount].copyFrom(scene.now);
        pastCount++;
    }

    /** The bytes that were fed, and the token up to which they have been read. */
    private static final class Tape {
        static final int MOST_BYTES = 400;
        static final int MOST_DIGITS = 5;
        /** Kinds of tokens; a sign of one byte is its own kind. */
        static final int END = -1;
        static final int NUMBER = 256;
        static final int WORD = 257;
        static final int AT_MOST = 258;
        static final int AT_LEAST = 259;
        /** Faults. */
        static final int CANT_STAND = 0;
        static final int WRONG_NUMBER = 1;
        static final int TOO_DEEP = 2;
        static final int ONE_VALUE_TOO_MANY = 3;
        static final int ONE_CLAUSE_TOO_MANY = 4;
        /** All words, by their numbers: the facts of a candidate first. */
        static final String WORDS =
            "candidate papers extra rest nights kept finish work busy waiting turn day paper taken plan if or and not ";
        static final int CANDIDATE = 0;
        static final int DAY = 11;
        static final int PAPER = 12;
        static final int TAKEN = 13;
        static final int PLAN = 14;
        static final int IF = 15;
        static final int OR = 16;
        static final int AND = 17;
        static final int NOT = 18;

        private final char[] bytes = new char[MOST_BYTES];
        int size;
        /** The token: its kind, its first byte, the byte behind it, and what it is as a number. */
        int kind;
        int at;
        private int place;
        int number;
        int fault;

        boolean hasRoom(int more) {
            return size + more <= MOST_BYTES;
        }

        void append(int four) {
            for (int shift = 24; shift >= 0; shift -= 8) {
                if (size < MOST_BYTES) {
                    bytes[size] = (char) (four >>> shift & 255);
                    size++;
                }
            }
        }

        void rewind() {
            place = 0;
            fault = 0;
            scan();
        }

        /** Goes on to the next token. */
        void scan() {
            while (place < size && bytes[place] == ' ') {
                place++;
            }
            at = place;
            kind = place < size ? bytes[place] : END;
            if (kind >= 'a' && kind <= 'z') {
                kind = WORD;
                while (place < size && bytes[place] >= 'a' && bytes[place] <= 'z') {
                    place++;
                }
            } else if (kind >= '0' && kind <= '9') {
                kind = NUMBER;
                number = 0;
                while (place < size && bytes[place] >= '0' && bytes[place] <= '9') {
                    // what goes round by too many digits is refused by their count
                    number = number * 10 + bytes[place] - '0';
                    place++;
                }
            } else if (kind != END) {
                place++;
                boolean orEqual = place < size && bytes[place] == '=';
                if (orEqual && (kind == '<' || kind == '>')) {
                    kind = kind == '<' ? AT_MOST : AT_LEAST;
                    place++;
                }
            }
        }

        /** The number of the word that the token is; NONE if it is none, or an unknown one. */
        int wordNumber() {
            int which = 0;
            int from = 0;
            boolean alike = kind == WORD;
            for (int i = 0; i < WORDS.length(); i++) {
                char sign = WORDS.charAt(i);
                int here = at + i - from;
                if (sign == ' ') {
                    if (alike && here == place) {
                        return which;
                    }
                    which++;
                    from = i + 1;
                    alike = kind == WORD;
                } else if (here >= place || bytes[here] != sign) {
                    alike = false;
                }
            }
            return NONE;
        }

        boolean isWord(int which) {
            return wordNumber() == which;
        }

        /** Whether another clause comes; false at the end of the text, or where neither it nor a ; stands. */
        boolean goesOn() {
            if (kind == ';') {
                scan();
                return true;
            }
            return kind != END && fail(CANT_STAND);
        }

        /** The fault is at the token; answers false, so that a reader can stop with it. */
        boolean fail(int what) {
            if (fault == 0) {
                fault = 1 + 8 * at + what;
            }
            return false;
        }

        /** What is wrong with the token as such a number; NONE if nothing is. */
        int numberFault(int least, int most) {
            if (kind != NUMBER) {
                return CANT_STAND;
            }
            boolean tooLong = place - at > MOST_DIGITS;
            return tooLong || number < least || number > most ? WRONG_NUMBER : NONE;
        }
    }

    /** Reads a DAY from the tape. */
    private static final class DayReader {
        private static final int MOST_CLAUSES = 40;

        private final Tape tape;
        private final int[] numbers = new int[3];

        DayReader(Tape tape) {
            this.tape = tape;
        }

        /** Answers the FAULT, 0 without one; with one the board holds no DAY that could be used. */
        int read(Board to) {
            tape.rewind();
            to.clear();
            // one more than is lawful is begun, so that it can be told as the fault
            for (int i = 0; i <= MOST_CLAUSES; i++) {
                if (!readClause(to, i) || !tape.goesOn()) {
                    break;
                }
            }
            return tape.fault;
        }

        private boolean readClause(Board to, int which) {
            int word = tape.wordNumber();
            if (word != Tape.DAY && word != Tape.PAPER && word != Tape.CANDIDATE && word != Tape.TAKEN) {
                return tape.fail(Tape.CANT_STAND);
            }
            boolean tooMany = which >= MOST_CLAUSES
                || (word == Tape.DAY) != (which == 0)
                || word == Tape.PAPER && to.papers >= PAPERS
                || word == Tape.CANDIDATE && to.candidates >= CANDIDATES;
            if (tooMany) {
                return tape.fail(Tape.ONE_CLAUSE_TOO_MANY);
            }
            tape.scan();
            switch (word) {
                case Tape.DAY: return readDay(to);
                case Tape.PAPER: return readPaper(to);
                case Tape.CANDIDATE: return readCandidate(to);
                default: return readTaken(to);
            }
        }

        private boolean readDay(Board to) {
            if (!readNumber(0, 1, 9) || !readNumber(1, 1, 20)) {
                return false;
            }
            to.seats = numbers[0];
            to.hours = numbers[1];
            return true;
        }

        private boolean readPaper(Board to) {
            if (!readNumber(0, 0, LAST_START) || !readNumber(1, 1, 6)) {
                return false;
            }
            to.addPaper(numbers[0], numbers[1]);
            return true;
        }

        private boolean readCandidate(Board to) {
            int allPapers = (1 << to.papers) - 1;
            if (!readNumber(0, 1, allPapers) || !readNumber(1, 0, MOST_EXTRA) || !readNumber(2, 0, MOST_REST)) {
                return false;
            }
            to.addCandidate(numbers[0], numbers[1], numbers[2]);
            return true;
        }

        private boolean readTaken(Board to) {
            if (!readNumber(0, 0, SLOTS - 1) || !readNumber(1, 0, MOST_TAKEN)) {
                return false;
            }
            to.taken[numbers[0]] = numbers[1];
            return true;
        }

        private boolean readNumber(int which, int least, int most) {
            int fault = tape.numberFault(least, most);
            if (fault != NONE) {
                return tape.fail(fault);
            }
            numbers[which] = tape.number;
            tape.scan();
            return true;
        }
    }

    /** Reads a RULE from the tape, as code for a stack. */
    private static final class RuleReader {
        static final int MOST_VALUES = 60;
        private static final int DEEPEST = 10;
        private static final int MOST_NUMBER = 99999;

        private final Tape tape;
        private int values;

        RuleReader(Tape tape) {
            this.tape = tape;
        }

        /** Answers the FAULT, 0 without one; with one the rule is not to be used. */
        int read(Rule to) {
            tape.rewind();
            to.clear();
            values = 0;
            // one more than is lawful is begun, so that it can be told as the fault
            for (int i = 0; i <= Rule.MOST_CLAUSES; i++) {
                if (!readClause(to, i) || !tape.goesOn()) {
                    break;
                }
            }
            return tape.fault;
        }

        private boolean readClause(Rule to, int which) {
            if (!tape.isWord(Tape.PLAN)) {
                return tape.fail(Tape.CANT_STAND);
            }
            if (which >= Rule.MOST_CLAUSES) {
                return tape.fail(Tape.ONE_CLAUSE_TOO_MANY);
            }
            tape.scan();
            if (!readSum(to)) {
                return false;
            }
            int sumEnd = to.size;
            if (tape.isWord(Tape.IF)) {
                tape.scan();
                if (!readTest(to, 0)) {
                    return false;
                }
            }
            to.closeClause(sumEnd);
            return true;
        }

        /** FACTS joined by and, and these by or: each joining waits until what binds closer is joined. */
        private boolean readTest(Rule to, int depth) {
            boolean and = false;
            boolean or = false;
            for (int i = 0; i < Tape.MOST_BYTES; i++) {
                if (!readFact(to, depth)) {
                    return false;
                }
                if (and) {
                    to.emit(Rule.AND);
                }
                and = tape.isWord(Tape.AND);
                if (!and) {
                    if (or) {
                        to.emit(Rule.OR);
                    }
                    or = tape.isWord(Tape.OR);
                    if (!or) {
                        return true;
                    }
                }
                tape.scan();
            }
            return tape.fail(Tape.CANT_STAND);
        }

        private boolean readFact(Rule to, int depth) {
            boolean denied = tape.isWord(Tape.NOT);
            boolean bracket = tape.kind == '[';
            if ((denied || bracket) && depth >= DEEPEST) {
                return tape.fail(Tape.TOO_DEEP);
            }
            if (denied) {
                tape.scan();
                if (!readFact(to, depth + 1)) {
                    return false;
                }
                to.emit(Rule.NOT);
                return true;
            }
            if (bracket) {
                tape.scan();
                if (!readTest(to, depth + 1)) {
                    return false;
                }
                if (tape.kind != ']') {
                    return tape.fail(Tape.CANT_STAND);
                }
                tape.scan();
                return true;
            }
            if (!readSum(to)) {
                return false;
            }
            int sign = Rule.comparison(tape.kind);
            if (sign == NONE) {
                return tape.fail(Tape.CANT_STAND);
            }
            if (values >= MOST_VALUES) {
                return tape.fail(Tape.ONE_VALUE_TOO_MANY);
            }
            values++;
            tape.scan();
            if (!readSum(to)) {
                return false;
            }
            to.emit(sign);
            return true;
        }

        /** VALUES joined by * / %, and these by + -, likewise. */
        private boolean readSum(Rule to) {
            int times = NONE;
            int plus = NONE;
            for (int i = 0; i < Tape.MOST_BYTES; i++) {
                if (!readValue(to)) {
                    return false;
                }
                if (times != NONE) {
                    to.emit(times);
                }
                times = Rule.timesLike(tape.kind);
                if (times == NONE) {
                    if (plus != NONE) {
                        to.emit(plus);
                    }
                    plus = Rule.plusLike(tape.kind);
                    if (plus == NONE) {
                        return true;
                    }
                }
                tape.scan();
            }
            return tape.fail(Tape.CANT_STAND);
        }

        private boolean readValue(Rule to) {
            int word = tape.wordNumber();
            boolean isFact = word >= 0 && word < Turns.FACTS;
            int fault = isFact ? NONE : tape.numberFault(0, MOST_NUMBER);
            if (fault != NONE) {
                return tape.fail(fault);
            }
            // counted behind its own faults: of one place the least fault is told
            if (values >= MOST_VALUES) {
                return tape.fail(Tape.ONE_VALUE_TOO_MANY);
            }
            values++;
            to.emit(isFact ? Rule.FACTS_FROM + word : tape.number);
            tape.scan();
            return true;
        }
    }

    /** A RULE, its clauses as code for a stack: what is worked on stands ahead of what works on it. */
    private static final class Rule {
        static final int MOST_CLAUSES = 12;
        /** Below this an item of code is a number. */
        static final int FACTS_FROM = 100000;
        static final int PLUS = 200000;
        static final int MINUS = 200001;
        static final int TIMES = 200002;
        static final int OVER = 200003;
        static final int REST_OF = 200004;
        static final int BELOW = 200005;
        static final int AT_MOST = 200006;
        static final int EQUAL = 200007;
        static final int AT_LEAST = 200008;
        static final int ABOVE = 200009;
        static final int AND = 200010;
        static final int OR = 200011;
        static final int NOT = 200012;

        /** Each item stands for a byte of its own at least, so the tape's length is enough. */
        private final int[] code = new int[Tape.MOST_BYTES];
        int size;
        private final int[] sumEnds = new int[MOST_CLAUSES];
        private final int[] clauseEnds = new int[MOST_CLAUSES];
        private int clauses;

        static int comparison(int kind) {
            switch (kind) {
                case '<': return BELOW;
                case Tape.AT_MOST: return AT_MOST;
                case '=': return EQUAL;
                case Tape.AT_LEAST: return AT_LEAST;
                case '>': return ABOVE;
                default: return NONE;
            }
        }

        static int timesLike(int kind) {
            return kind == '*' ? TIMES : kind == '/' ? OVER : kind == '%' ? REST_OF : NONE;
        }

        static int plusLike(int kind) {
            return kind == '+' ? PLUS : kind == '-' ? MINUS : NONE;
        }

        void clear() {
            size = 0;
            clauses = 0;
        }

        void emit(int item) {
            if (size < code.length) {
                code[size] = item;
                size++;
            }
        }

        void closeClause(int sumEnd) {
            if (clauses < MOST_CLAUSES) {
                sumEnds[clauses] = sumEnd;
                clauseEnds[clauses] = size;
                clauses++;
            }
        }

        /** The SUM of the first clause whose TEST holds; 0 without one. */
        long worth(long[] facts, long[] stack) {
            int from = 0;
            for (int i = 0; i < clauses; i++) {
                boolean hasTest = sumEnds[i] < clauseEnds[i];
                if (!hasTest || valueOf(sumEnds[i], clauseEnds[i], facts, stack) != 0) {
                    return valueOf(from, sumEnds[i], facts, stack);
                }
                from = clauseEnds[i];
            }
            return 0;
        }

        private long valueOf(int from, int to, long[] facts, long[] stack) {
            int top = -1;
            for (int i = from; i < to; i++) {
                int item = code[i];
                if (item < PLUS) {
                    top = Math.min(top + 1, stack.length - 1);
                    stack[top] = item < FACTS_FROM ? item : facts[item - FACTS_FROM];
                } else if (item == NOT && top >= 0) {
                    stack[top] = 1 - stack[top];
                } else if (top >= 1) {
                    top--;
                    stack[top] = joined(item, stack[top], stack[top + 1]);
                }
            }
            return top < 0 ? 0 : stack[0];
        }

        private static long joined(int item, long a, long b) {
            switch (item) {
                case PLUS: return a + b;
                case MINUS: return a - b;
                case TIMES: return a * b;
                case OVER: return b == 0 ? 0 : a / b;
                case REST_OF: return b == 0 ? 0 : a % b;
                case BELOW: return a < b ? 1 : 0;
                case AT_MOST: return a <= b ? 1 : 0;
                case EQUAL: return a == b ? 1 : 0;
                case AT_LEAST: return a >= b ? 1 : 0;
                case ABOVE: return a > b ? 1 : 0;
                case AND: return a & b;
                default: return a | b;
            }
        }
    }

    /** A DAY and how far it is planned; sets of slots, papers and candidates are bits. */
    private static final class Board {
        int seats;
        int hours;
        int papers;
        int candidates;
        int turn;
        int planned;
        final int[] start = new int[PAPERS];
        final int[] length = new int[PAPERS];
        final int[] sits = new int[CANDIDATES];
        final int[] extra = new int[CANDIDATES];
        final int[] rest = new int[CANDIDATES];
        final int[] taken = new int[SLOTS];
        /** Of who is planned: where each paper begins, in which slots they sit, in which they are kept (none else). */
        private final int[] begin = new int[CANDIDATES * PAPERS];
        private final int[] sat = new int[CANDIDATES];
        private final int[] kept = new int[CANDIDATES];

        void clear() {
            seats = 0;
            hours = 0;
            papers = 0;
            candidates = 0;
            turn = 0;
            planned = 0;
            for (int slot = 0; slot < SLOTS; slot++) {
                taken[slot] = 0;
            }
            for (int who = 0; who < CANDIDATES; who++) {
                sat[who] = 0;
                kept[who] = 0;
            }
        }

        void copyFrom(Board other) {
            seats = other.seats;
            hours = other.hours;
            papers = other.papers;
            candidates = other.candidates;
            turn = other.turn;
            planned = other.planned;
            System.arraycopy(other.start, 0, start, 0, PAPERS);
            System.arraycopy(other.length, 0, length, 0, PAPERS);
            System.arraycopy(other.sits, 0, sits, 0, CANDIDATES);
            System.arraycopy(other.extra, 0, extra, 0, CANDIDATES);
            System.arraycopy(other.rest, 0, rest, 0, CANDIDATES);
            System.arraycopy(other.taken, 0, taken, 0, SLOTS);
            System.arraycopy(other.begin, 0, begin, 0, CANDIDATES * PAPERS);
            System.arraycopy(other.sat, 0, sat, 0, CANDIDATES);
            System.arraycopy(other.kept, 0, kept, 0, CANDIDATES);
        }

        void addPaper(int itsStart, int itsLength) {
            if (papers < PAPERS) {
                start[papers] = itsStart;
                length[papers] = itsLength;
                papers++;
            }
        }

        void addCandidate(int theirSits, int theirExtra, int theirRest) {
            if (candidates < CANDIDATES) {
                sits[candidates] = theirSits;
                extra[candidates] = theirExtra;
                rest[candidates] = theirRest;
                candidates++;
            }
        }

        boolean isDay() {
            return seats > 0;
        }

        boolean hasPaper(int paper) {
            return paper >= 0 && paper < papers;
        }

        boolean hasCandidate(int who) {
            return who >= 0 && who < candidates;
        }

        boolean isPlanned(int who) {
            return hasCandidate(who) && (planned >> who & 1) == 1;
        }

        boolean waits(int who) {
            return hasCandidate(who) && (planned >> who & 1) == 0;
        }

        int waiting() {
            return (1 << candidates) - 1 & ~planned;
        }

        boolean sitsIn(int who, int paper) {
            return (sits[who] >> paper & 1) == 1;
        }

        int sittersOf(int paper) {
            int set = 0;
            for (int who = 0; who < candidates; who++) {
                if (sitsIn(who, paper)) {
                    set |= 1 << who;
                }
            }
            return set;
        }

        int timeOf(int who, int paper) {
            return (length[paper] * (100 + extra[who]) + 99) / 100;
        }

        int workOf(int who) {
            int all = 0;
            for (int paper = 0; paper < papers; paper++) {
                if (sitsIn(who, paper)) {
                    all += timeOf(who, paper);
                }
            }
            return all;
        }

        int beginOf(int who, int paper) {
            return begin[who * PAPERS + paper];
        }

        int freeSeats(int slot) {
            int left = seats - taken[slot];
            for (int who = 0; who < candidates; who++) {
                left -= sat[who] >> slot & 1;
            }
            return Math.max(left, 0);
        }

        /** Slots with a free seat; counted here once more, as this is asked most. */
        int openSlots() {
            int set = 0;
            for (int slot = 0; slot < SLOTS; slot++) {
                int left = seats - taken[slot];
                for (int who = 0; who < candidates; who++) {
                    left -= sat[who] >> slot & 1;
                }
                if (left > 0) {
                    set |= 1 << slot;
                }
            }
            return set;
        }

        int busiest() {
            int most = 0;
            for (int slot = 0; slot < SLOTS; slot++) {
                most = Math.max(most, seats - freeSeats(slot));
            }
            return most;
        }

        boolean keptIn(int who, int slot) {
            return (kept[who] >> slot & 1) == 1;
        }

        int keptOf(int who) {
            return Integer.bitCount(kept[who]);
        }

        int keptOfAll() {
            int all = 0;
            for (int who = 0; who < candidates; who++) {
                all += keptOf(who);
            }
            return all;
        }

        /** One is planned as the planner has just found. */
        void adopt(int who, Planner found) {
            System.arraycopy(found.begin, 0, begin, who * PAPERS, PAPERS);
            sat[who] = found.sat;
            kept[who] = found.kept;
            planned |= 1 << who;
        }

        void release(int who) {
            planned &= ~(1 << who);
            sat[who] = 0;
            kept[who] = 0;
        }

        boolean canBeLater(int paper) {
            return hasPaper(paper) && start[paper] < LAST_START;
        }

        void postpone(int paper, int slots) {
            start[paper] = Math.min(start[paper] + slots, LAST_START);
            for (int who = 0; who < candidates; who++) {
                if (sitsIn(who, paper)) {
                    release(who);
                }
            }
        }

        int watchersIn(int slot, int each) {
            int all = 0;
            for (int who = 0; who < candidates; who++) {
                if (keptIn(who, slot)) {
                    all++;
                }
            }
            return each < 1 ? all : (all + each - 1) / each;
        }

        int mostKeptSlot(int each) {
            int most = 0;
            for (int slot = 1; slot < SLOTS; slot++) {
                if (watchersIn(slot, each) > watchersIn(most, each)) {
                    most = slot;
                }
            }
            return most;
        }

        /** Slots in which one has not begun a paper that the other one has, and neither sits. */
        int mustNotMeet(int one, int other) {
            int set = 0;
            for (int paper = 0; paper < papers; paper++) {
                if (sitsIn(one, paper) && sitsIn(other, paper)) {
                    set |= span(beginOf(other, paper), beginOf(one, paper));
                }
            }
            return set & ~sat[one] & ~sat[other];
        }

        /** The part of so many pence that falls to one who is planned. */
        int shareOf(int much, int who) {
            int all = 0;
            for (int i = 0; i < candidates; i++) {
                all += isPlanned(i) ? workOf(i) : 0;
            }
            if (all == 0) {
                return 0;
            }
            int left = much;
            int ahead = 0;
            int lost = much * workOf(who) % all;
            for (int i = 0; i < candidates; i++) {
                if (isPlanned(i)) {
                    int part = much * workOf(i);
                    left -= part / all;
                    if (part % all > lost || part % all == lost && i < who) {
                        ahead++;
                    }
                }
            }
            return much * workOf(who) / all + (ahead < left ? 1 : 0);
        }

        /** All slots from one on. */
        static int from(int slot) {
            return ALL_SLOTS & -1 << Math.min(slot, SLOTS);
        }

        /** The slots from one on that are ahead of an end; none, if the end is not behind it. */
        static int span(int slot, int end) {
            return ALL_SLOTS & -1 << Math.min(slot, SLOTS) & ~(-1 << Math.min(end, SLOTS));
        }
    }

    /** Looks through all ORDERS of one candidate; of the best one all that is told stands in its fields. */
    private static final class Planner {
        private final int[] start = new int[PAPERS];
        private final int[] time = new int[PAPERS];
        /** Slots in which a paper could begin, by its START and the seats alone. */
        private final int[] fits = new int[PAPERS];
        private final int[] trying = new int[PAPERS];
        private int hours;
        private int rest;

        int ways;
        int nights;
        int kept;
        int sat;
        int lastEnd;
        final int[] begin = new int[PAPERS];
        private int cost;

        /** Whether an ORDER of these papers of theirs would do. */
        boolean finds(Board board, int who, int set) {
            prepare(board, who, set);
            ways = 0;
            follow(set, NONE, 0, 0, 0);
            return ways > 0;
        }

        /** Plans one who waits, if there is a PLAN. */
        boolean settles(Board board, int who) {
            if (!board.waits(who) || !finds(board, who, board.sits[who])) {
                return false;
            }
            board.adopt(who, this);
            return true;
        }

        /** The fewest papers of which no ORDER would do, of several sets the least. */
        int leastClash(Board board, int who) {
            int all = board.sits[who];
            for (int many = 1; many <= PAPERS; many++) {
                for (int set = 1; set <= all; set++) {
                    boolean theirs = (set & ~all) == 0;
                    if (theirs && Integer.bitCount(set) == many && !finds(board, who, set)) {
                        return set;
                    }
                }
            }
            return all;
        }

        private void prepare(Board board, int who, int set) {
            int open = board.openSlots();
            hours = board.hours;
            rest = board.rest[who];
            for (int paper = 0; paper < PAPERS; paper++) {
                trying[paper] = NONE;
                if ((set >> paper & 1) == 1) {
                    start[paper] = board.start[paper];
                    time[paper] = board.timeOf(who, paper);
                    int slots = runs(open & FIRST_DAY_SLOTS, time[paper]) | runs(open & ~FIRST_DAY_SLOTS, time[paper]);
                    fits[paper] = slots & Board.from(start[paper]);
                }
            }
        }

        /** The slots from which on so many lie in the set. */
        private static int runs(int slots, int many) {
            int all = slots;
            for (int i = 1; i < many && i < SLOTS; i++) {
                all &= slots >>> i;
            }
            return all;
        }

        /** Goes on with each paper that is left; owed are the slots between a paper's START and its begin. */
        private void follow(int left, int end, int worked, int sits, int owed) {
            if (left == 0) {
                weigh(end, sits, owed & ~sits);
                return;
            }
            for (int paper = 0; paper < PAPERS; paper++) {
                if ((left >> paper & 1) == 1) {
                    int slot = leastSlot(paper, end, worked);
                    if (slot != NONE) {
                        int itsEnd = slot + time[paper];
                        trying[paper] = slot;
                        follow(left & ~(1 << paper), itsEnd,
                            slot < FIRST_DAY ? worked + time[paper] : worked,
                            sits | Board.span(slot, itsEnd),
                            owed | Board.span(start[paper], slot));
                    }
                }
            }
        }

        private int leastSlot(int paper, int end, int worked) {
            int slots = fits[paper];
            if (end != NONE) {
                int rested = -1 << Math.min(end + rest, SLOTS);
                // a night between is rest enough, whatever they ask for
                slots &= end <= FIRST_DAY ? rested | ~FIRST_DAY_SLOTS : rested;
            }
            if (worked + time[paper] > hours) {
                slots &= ~FIRST_DAY_SLOTS;
            }
            return slots == 0 ? NONE : Integer.numberOfTrailingZeros(slots);
        }

        /** Orders come with the least numbers first, so only a better one takes the place. */
        private void weigh(int end, int sits, int keeps) {
            int overnight = 0;
            for (int paper = 0; paper < PAPERS; paper++) {
                if (trying[paper] >= FIRST_DAY) {
                    overnight++;
                }
            }
            ways++;
            // neither what is kept nor an end comes to 100
            int itsCost = (overnight * 100 + Integer.bitCount(keeps)) * 100 + end;
            if (ways == 1 || itsCost < cost) {
                cost = itsCost;
                nights = overnight;
                kept = keeps;
                sat = sits;
                lastEnd = end;
                System.arraycopy(trying, 0, begin, 0, PAPERS);
            }
        }
    }

    /** Goes on by TURNS on a board. */
    private static final class Turns {
        static final int CANDIDATE = 0;
        static final int HOW_MANY_PAPERS = 1;
        static final int EXTRA = 2;
        static final int REST = 3;
        static final int NIGHTS = 4;
        static final int KEPT = 5;
        static final int FINISH = 6;
        static final int WORK = 7;
        static final int BUSY = 8;
        static final int WAITING = 9;
        static final int TURN = 10;
        static final int FACTS = 11;

        private final Planner planner;
        private final long[] facts = new long[FACTS];
        private final long[] stack = new long[RuleReader.MOST_VALUES];

        Turns(Planner planner) {
            this.planner = planner;
        }

        /** A TURN by a rule, or by none: who is planned in it. */
        int step(Board board, Rule rule) {
            int who = rule == null ? leastThatCan(board) : dearest(board, rule);
            planner.settles(board, who);
            board.turn++;
            return who;
        }

        private int leastThatCan(Board board) {
            for (int who = 0; who < board.candidates; who++) {
                if (board.waits(who) && planner.finds(board, who, board.sits[who])) {
                    return who;
                }
            }
            return NOT_SO;
        }

        private int dearest(Board board, Rule rule) {
            facts[BUSY] = board.busiest();
            facts[WAITING] = Integer.bitCount(board.waiting());
            facts[TURN] = board.turn;
            int dearest = NOT_SO;
            long most = 0;
            for (int who = 0; who < board.candidates; who++) {
                if (board.waits(who) && planner.finds(board, who, board.sits[who])) {
                    gatherFacts(board, who);
                    long worth = rule.worth(facts, stack);
                    if (worth > most) {
                        most = worth;
                        dearest = who;
                    }
                }
            }
            return dearest;
        }

        private void gatherFacts(Board board, int who) {
            facts[CANDIDATE] = who;
            facts[HOW_MANY_PAPERS] = Integer.bitCount(board.sits[who]);
            facts[EXTRA] = board.extra[who];
            facts[REST] = board.rest[who];
            facts[NIGHTS] = planner.nights;
            facts[KEPT] = Integer.bitCount(planner.kept);
            facts[FINISH] = planner.lastEnd;
            facts[WORK] = board.workOf(who);
        }
    }

    /** What was noted of free seats. */
    private static final class Notes {
        private static final int MOST = 10;

        int size;
        private final int[] turn = new int[MOST];
        private final int[] slot = new int[MOST];
        private final int[] seats = new int[MOST];

        void copyFrom(Notes other) {
            size = other.size;
            System.arraycopy(other.turn, 0, turn, 0, MOST);
            System.arraycopy(other.slot, 0, slot, 0, MOST);
            System.arraycopy(other.seats, 0, seats, 0, MOST);
        }

        boolean isFull() {
            return size >= MOST;
        }

        void append(int itsTurn, int itsSlot, int itsSeats) {
            if (!isFull()) {
                turn[size] = itsTurn;
                slot[size] = itsSlot;
                seats[size] = itsSeats;
                size++;
            }
        }

        /** The last TURN of which something is noted; NONE without notes. */
        int lastTurn() {
            int last = NONE;
            for (int i = 0; i < size; i++) {
                last = Math.max(last, turn[i]);
            }
            return last;
        }

        boolean agreeWith(Board board, int behindTurn) {
            for (int i = 0; i < size; i++) {
                if (turn[i] == behindTurn && board.freeSeats(slot[i]) != seats[i]) {
                    return false;
                }
            }
            return true;
        }
    }

    /** All that an IMAGE holds: all but the TAPE and the RULES. */
    private static final class Scene {
        final Board told = new Board();
        final Board now = new Board();
        final Notes notes = new Notes();
        int inForce = NONE;
        int x;
        boolean made;

        void copyFrom(Scene other) {
            told.copyFrom(other.told);
            now.copyFrom(other.now);
            notes.copyFrom(other.notes);
            inForce = other.inForce;
            x = other.x;
        }
    }

    /** The LINES of those who are planned, how they are spelt, and who watches them slot by slot. */
    private static final class Lines {
        /** Two texts of SPELT; none is longer than its LINE. */
        final int[][] signs = new int[2][SLOTS];
        final int[] sizes = new int[2];
        private final int[] watcher = new int[CANDIDATES];
        private final int[] keeps = new int[CANDIDATES];

        static char sign(Board board, int who, int slot) {
            if (board.keptIn(who, slot)) {
                return 'k';
            }
            for (int paper = 0; paper < board.papers; paper++) {
                if (board.sitsIn(who, paper)) {
                    int behind = slot - board.beginOf(who, paper);
                    if (behind >= 0 && behind < board.timeOf(who, paper)) {
                        return (char) ('A' + paper);
                    }
                }
            }
            return '.';
        }

        void spell(Board board, int who, int which) {
            sizes[which] = 0;
            int from = 0;
            for (int slot = 1; slot <= SLOTS; slot++) {
                char sign = sign(board, who, from);
                if (slot == SLOTS || sign(board, who, slot) != sign) {
                    spellRun(which, slot - from, sign);
                    from = slot;
                }
            }
        }

        private void spellRun(int which, int many, char sign) {
            if (many >= 10) {
                put(which, (char) ('0' + many / 10));
            }
            if (many >= 2) {
                put(which, (char) ('0' + many % 10));
            }
            put(which, sign);
        }

        private void put(int which, char sign) {
            if (sizes[which] < SLOTS) {
                signs[which][sizes[which]] = sign;
                sizes[which]++;
            }
        }

        /** How many signs both texts have in common at their begin. */
        int inCommon() {
            int shorter = Math.min(sizes[0], sizes[1]);
            for (int i = 0; i < shorter; i++) {
                if (signs[0][i] != signs[1][i]) {
                    return i;
                }
            }
            return shorter;
        }

        /** Which text is ahead, 0 or 1; NONE if they are alike. */
        int whichAhead() {
            int common = inCommon();
            if (common < sizes[0] && common < sizes[1]) {
                return signs[0][common] < signs[1][common] ? 0 : 1;
            }
            if (sizes[0] == sizes[1]) {
                return NONE;
            }
            return sizes[0] < sizes[1] ? 0 : 1;
        }

        /** The WATCHER of one who is kept in a slot, if each keeps so many at most. */
        int watcherOf(Board board, int each, int who, int slot) {
            for (int i = 0; i <= slot && i < SLOTS; i++) {
                watchSlot(board, each, i);
            }
            return watcher[who];
        }

        private void watchSlot(Board board, int each, int slot) {
            for (int i = 0; i < CANDIDATES; i++) {
                keeps[i] = 0;
            }
            for (int who = 0; who < board.candidates; who++) {
                if (board.keptIn(who, slot) && wasKept(board, who, slot)) {
                    keeps[watcher[who]]++;
                }
            }
            for (int who = 0; who < board.candidates; who++) {
                if (board.keptIn(who, slot) && !wasKept(board, who, slot)) {
                    watcher[who] = leastThatCan(each);
                    keeps[watcher[who]]++;
                }
            }
        }

        private static boolean wasKept(Board board, int who, int slot) {
            return slot > 0 && board.keptIn(who, slot - 1);
        }

        /** There are as many watchers as candidates, so one of them has nobody yet. */
        private int leastThatCan(int each) {
            for (int i = 0; i < CANDIDATES - 1; i++) {
                if (keeps[i] < each) {
                    return i;
                }
            }
            return CANDIDATES - 1;
        }
    }

    /** What would be: all is tried on a board of its own, so that nothing changes by a question. */
    private static final class Trials {
        static final int RESTS = MOST_REST + 1;
        static final int EXTRA_STEP = 20;
        private static final int IN_ROW = 4;

        private final Planner planner;
        private final Turns turns;
        private final Board trial = new Board();

        int bestPlanned;
        int bestKept;
        final int[] bestRow = new int[IN_ROW];
        private final int[] row = new int[IN_ROW];

        int illPlanned;
        int illKept;
        private int drawn;

        private final int[] oneHas = new int[RESTS * RESTS];
        private final int[] otherHas = new int[RESTS * RESTS];
        /** Of each rule, and of none ahead of them, the free seats of all slots. */
        private final int[][] foreseen = new int[RULES + 1][SLOTS];

        Trials(Planner planner, Turns turns) {
            this.planner = planner;
            this.turns = turns;
        }

        void rankRows(Board now) {
            trial.copyFrom(now);
            int set = 0;
            for (int who = 0; who < now.candidates && Integer.bitCount(set) < IN_ROW; who++) {
                if (now.waits(who)) {
                    set |= 1 << who;
                }
            }
            for (int i = 0; i < IN_ROW; i++) {
                row[i] = NONE;
            }
            bestPlanned = NONE;
            goOnWithRow(set, 0, 0, 0);
        }

        private void goOnWithRow(int left, int place, int planned, int kept) {
            if (left == 0 || place >= IN_ROW) {
                if (planned > bestPlanned || planned == bestPlanned && kept < bestKept) {
                    bestPlanned = planned;
                    bestKept = kept;
                    System.arraycopy(row, 0, bestRow, 0, IN_ROW);
                }
                return;
            }
            for (int who = 0; who < trial.candidates; who++) {
                if ((left >> who & 1) == 1) {
                    row[place] = who;
                    int rest = left & ~(1 << who);
                    if (planner.settles(trial, who)) {
                        goOnWithRow(rest, place + 1, planned + 1, kept + trial.keptOf(who));
                        trial.release(who);
                    } else {
                        goOnWithRow(rest, place + 1, planned, kept);
                    }
                }
            }
        }

        /** The paper whose delay harms most; NONE if none can be later. */
        int worstDelay(Board now, int slots) {
            int worst = NONE;
            int most = NONE;
            for (int paper = 0; paper < now.papers; paper++) {
                if (now.canBeLater(paper)) {
                    int many = harmed(now, paper, slots);
                    if (many > most) {
                        most = many;
                        worst = paper;
                    }
                }
            }
            return worst;
        }

        /** How many would wait without a PLAN, were the paper delayed. */
        int harmed(Board now, int paper, int slots) {
            trial.copyFrom(now);
            trial.postpone(paper, slots);
            int many = 0;
            for (int who = 0; who < trial.candidates; who++) {
                if (trial.waits(who) && !planner.finds(trial, who, trial.sits[who])) {
                    many++;
                }
            }
            return many;
        }

        /** How it is when so many TURNS more have been made. */
        Board behind(Board from, Rule rule, int many) {
            trial.copyFrom(from);
            for (int i = 0; i < many; i++) {
                turns.step(trial, rule);
            }
            return trial;
        }

        /** The number of the TURN in which one is planned; NOT_SO if it is none of the next ones. */
        int turnOf(Board now, Rule rule, int who) {
            trial.copyFrom(now);
            for (int i = 0; i < TURNS_AHEAD; i++) {
                int turn = trial.turn;
                if (turns.step(trial, rule) == who) {
                    return turn;
                }
            }
            return NOT_SO;
        }

        /** Which multiples of EXTRA_STEP as EXTRA agree with the notes, as bits. */
        int extrasAsNoted(Scene scene, Rule rule, int who) {
            int set = 0;
            for (int i = 0; i * EXTRA_STEP <= MOST_EXTRA; i++) {
                trial.copyFrom(scene.told);
                trial.extra[who] = i * EXTRA_STEP;
                if (isAsNoted(scene.notes, rule)) {
                    set |= 1 << i;
                }
            }
            return set;
        }

        int restsAsNoted(Scene scene, Rule rule, int who) {
            int set = 0;
            for (int i = 0; i <= MOST_REST; i++) {
                trial.copyFrom(scene.told);
                trial.rest[who] = i;
                if (isAsNoted(scene.notes, rule)) {
                    set |= 1 << i;
                }
            }
            return set;
        }

        /** Which rules agree with the notes: bit 0 is none, bit 1 is rule 0 and so on. */
        int rulesAsNoted(Scene scene, Rule[] rules, int ruleCount) {
            int set = 0;
            for (int i = 0; i <= ruleCount && i <= rules.length; i++) {
                trial.copyFrom(scene.told);
                if (isAsNoted(scene.notes, i == 0 ? null : rules[i - 1])) {
                    set |= 1 << i;
                }
            }
            return set;
        }

        /** Goes on from where the trial stands; behind TURN 0 is when one has been made. */
        private boolean isAsNoted(Notes notes, Rule rule) {
            int last = notes.lastTurn();
            for (int i = 0; i <= last; i++) {
                turns.step(trial, rule);
                if (!notes.agreeWith(trial, i)) {
                    return false;
                }
            }
            return true;
        }

        /** The free seats behind a TURN, by each rule of the set. */
        void foresee(Board told, Rule[] rules, int set, int turn) {
            for (int i = 0; i < foreseen.length; i++) {
                if ((set >> i & 1) == 1) {
                    behind(told, i == 0 || i > rules.length ? null : rules[i - 1], turn + 1);
                    for (int slot = 0; slot < SLOTS; slot++) {
                        foreseen[i][slot] = trial.freeSeats(slot);
                    }
                }
            }
        }

        int slotThatParts(int set) {
            int best = 0;
            for (int slot = 1; slot < SLOTS; slot++) {
                if (mostAlike(set, slot) < mostAlike(set, best)) {
                    best = slot;
                }
            }
            return best;
        }

        /** How many rules of the set at most have as many seats of a slot free. */
        int mostAlike(int set, int slot) {
            int most = 0;
            for (int i = 0; i < foreseen.length; i++) {
                int alike = 0;
                for (int j = 0; j < foreseen.length; j++) {
                    boolean both = (set >> i & 1) == 1 && (set >> j & 1) == 1;
                    if (both && foreseen[i][slot] == foreseen[j][slot]) {
                        alike++;
                    }
                }
                most = Math.max(most, alike);
            }
            return most;
        }

        /** The twos of RESTS of which neither would have more by another one, as bits. */
        int settledTwos(Board now, int one, int other) {
            for (int two = 0; two < RESTS * RESTS; two++) {
                trial.copyFrom(now);
                trial.rest[one] = two / RESTS;
                trial.rest[other] = two % RESTS;
                oneHas[two] = gainOf(one);
                otherHas[two] = gainOf(other);
            }
            int set = 0;
            for (int two = 0; two < RESTS * RESTS; two++) {
                if (isSettled(two)) {
                    set |= 1 << two;
                }
            }
            return set;
        }

        private int gainOf(int who) {
            return planner.settles(trial, who) ? SLOTS - planner.lastEnd + 2 * trial.rest[who] : 0;
        }

        private boolean isSettled(int two) {
            int mine = two / RESTS;
            int theirs = two % RESTS;
            for (int i = 0; i < RESTS; i++) {
                if (oneHas[i * RESTS + theirs] > oneHas[two] || otherHas[mine * RESTS + i] > otherHas[two]) {
                    return false;
                }
            }
            return true;
        }

        void fallIll(Scene scene, Rule rule, int times, int many, int percent) {
            illPlanned = 0;
            illKept = 0;
            drawn = scene.x;
            for (int i = 0; i < times; i++) {
                trial.copyFrom(scene.now);
                for (int j = 0; j < many; j++) {
                    drawIllness(percent);
                    turns.step(trial, rule);
                }
                illPlanned += Integer.bitCount(trial.planned);
                illKept += trial.keptOfAll();
            }
        }

        private void drawIllness(int percent) {
            if (nextDraw() % 100 < percent && trial.candidates > 0) {
                trial.release(nextDraw() % trial.candidates);
            }
        }

        private int nextDraw() {
            drawn = (int) ((drawn * 1103515245L + 12345L) % 2147483648L);
            return drawn / 65536;
        }
    }
}
