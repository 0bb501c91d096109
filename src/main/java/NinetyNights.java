import java.util.Arrays;

/**
 * An island whose people have a mark or none, see others' and not their own, and go by the night
 * boat once they know. All rows are made with the object, so that no call makes a new one.
 */
public final class NinetyNights {
    public static final int NONE = -1;
    public static final int GAP = -1000000;

    private static final int UNKNOWN = -2;
    private static final int SPENT_FITS = -2;
    private static final int SPENT_SURE = -3;
    private static final int MOST_NIGHTS = 300;
    private static final int MOST_WHISPERS = 8;
    private static final int BOXES = 3;
    private static final int DEEPEST = 98;
    private static final int IN_COMMON = 99;

    private final Tape tape = new Tape();
    private final Code formula = new Code();
    private Island told = new Island();
    private Island draft = new Island();
    private final Reader reader = new Reader(tape, told, formula);
    private final Mind mind = new Mind();
    private final Scene now = new Scene(told, new Views());
    /** What is tried out: it shares the views of now, for nothing is whispered in a trial. */
    private final Scene trial = new Scene(told, now.views);
    private final Scene[] boxes = new Scene[BOXES];
    private final boolean[] filled = new boolean[BOXES];
    private final Sights sights = new Sights();
    private final Guesses guesses = new Guesses(told);
    /** For each world the sets of sayings (a bit for each of the 64) behind which it is possible. */
    private final long[] left = new long[Island.WORLDS];

    public NinetyNights() {
        for (int box = 0; box < BOXES; box++) {
            boxes[box] = new Scene(told, new Views());
        }
        now.open(told);
    }

    public int feed(int a, int b, int c, int d, int e) {
        return tape.take(a, b, c, d, e);
    }

    public int end(int n) {
        if (n < 0 || n > tape.length) {
            return NONE;
        }
        tape.length = n;
        return n;
    }

    public int island() {
        boolean good = reader.readIsland(draft);
        tape.length = 0;
        if (!good) {
            return NONE;
        }
        Island old = told;
        told = draft;
        draft = old;
        now.open(told);
        for (int box = 0; box < BOXES; box++) {
            filled[box] = false;
        }
        sights.count = 0;
        guesses.fresh = false;
        return told.people;
    }

    public int fault(int what) {
        if (what == 0) {
            return reader.fault;
        }
        return what == 1 ? reader.place : NONE;
    }

    public int sees(int one) {
        return told.isPerson(one) ? told.seen[one] : NONE;
    }

    public int worlds() {
        return now.count;
    }

    public int possible(int world) {
        if (!told.isWorld(world)) {
            return NONE;
        }
        return now.contains(world) ? 1 : 0;
    }

    public int like(int one, int a, int b) {
        if (!told.isPerson(one) || !now.contains(a) || !now.contains(b)) {
            return NONE;
        }
        return now.views.areAlike(one, a, b) ? 1 : 0;
    }

    public int own(int one) {
        return told.isPerson(one) ? mind.ownMark(now, one) : NONE;
    }

    public int ask() {
        return weighTape() ? mind.result()[told.marked] : GAP;
    }

    public int holds() {
        return weighTape() ? now.countSo(mind.result()) : NONE;
    }

    public int deep() {
        return weighTape() ? mind.depth(now) : GAP;
    }

    public int say() {
        return weighTape() ? now.hear(mind.result()) : NONE;
    }

    public int saying(int i) {
        if (i < 0 || i >= told.sayings) {
            return NONE;
        }
        mind.weighSaying(now, i);
        return now.hear(mind.result());
    }

    public int whisper(int people) {
        if (!weighTape() || !told.arePeople(people) || now.whispers >= MOST_WHISPERS) {
            return NONE;
        }
        int[] row = mind.result();
        for (int one = 0; one < told.people; one++) {
            if ((people >> one & 1) == 1) {
                now.views.split(one, row, now);
            }
        }
        now.whispers++;
        return row[told.marked] != 0 ? 1 : 0;
    }

    public int night() {
        return now.nights < MOST_NIGHTS ? mind.pass(now) : NONE;
    }

    public int gone() {
        return now.gone;
    }

    public int when(int one) {
        if (!told.isPerson(one) || (now.gone >> one & 1) == 1) {
            return NONE;
        }
        trial.follow(now);
        // Every night but the last strikes a world or sends somebody away: 300 are never needed.
        for (int night = 1; night <= MOST_NIGHTS; night++) {
            int before = trial.count;
            int went = mind.pass(trial);
            if ((went >> one & 1) == 1) {
                return night;
            }
            if (went == 0 && trial.count == before) {
                return NONE;
            }
        }
        return NONE;
    }

    public int fewest(int people, int n) {
        if (!told.arePeople(people) || n < 1 || n > Sights.NIGHTS) {
            return NONE;
        }
        long sound = trySayings();
        for (int size = 0; size <= told.sayings; size++) {
            for (int set = 0; set < 1 << told.sayings; set++) {
                boolean fit = Integer.bitCount(set) == size && (sound >> set & 1) == 1;
                if (fit && goJust(people, set, n)) {
                    return set;
                }
            }
        }
        return NONE;
    }

    public int sight(int one, int night, boolean went) {
        return told.isPerson(one) ? sights.tell(one, night, went) : NONE;
    }

    public boolean untell(int sight) {
        return sights.takeBack(sight);
    }

    public int later(int by) {
        return sights.goOn(by);
    }

    public int fits(int k) {
        if (told.people > Guesses.PEOPLE) {
            return SPENT_FITS;
        }
        return countFits(k);
    }

    public int sure(int one, int k) {
        if (!told.isPerson(one)) {
            return NONE;
        }
        if (told.people > Guesses.PEOPLE) {
            return SPENT_SURE;
        }
        if (countFits(k) == 0) {
            return NONE;
        }
        boolean with = (guesses.with >> one & 1) == 1;
        boolean without = (guesses.without >> one & 1) == 1;
        if (with && without) {
            return UNKNOWN;
        }
        return with ? 1 : 0;
    }

    public int image(int box) {
        if (box < 0 || box >= BOXES) {
            return NONE;
        }
        boxes[box].copy(now);
        filled[box] = true;
        return now.nights;
    }

    public int back(int box) {
        if (box < 0 || box >= BOXES || !filled[box]) {
            return NONE;
        }
        now.copy(boxes[box]);
        return now.nights;
    }

    public int about(int what) {
        switch (what) {
            case 0:
                return told.people;
            case 1:
                return told.sayings;
            case 2:
                return told.marked;
            case 3:
                return now.nights;
            case 4:
                return now.whispers;
            case 5:
                return sights.count;
            case 6:
                return sights.time;
            case 7:
                return tape.length;
            case 8:
                return told.units;
            default:
                return NONE;
        }
    }

    /** Reads the tape as a formula and weighs it in all possible worlds; false if it has a fault. */
    private boolean weighTape() {
        boolean good = reader.readFormula(told, formula);
        tape.length = 0;
        if (good) {
            mind.weigh(now, formula, 0, formula.size);
        }
        return good;
    }

    /**
     * Says each set of sayings, the least number first: what is left stands in the row left, and
     * the answer has a bit for each set all of whose sayings were so and struck some world. A set's
     * last saying is its highest, so each set is the next step behind a lower one.
     */
    private long trySayings() {
        Arrays.fill(left, 0L);
        now.note(left, 0);
        long sound = 1L;
        for (int last = 0; last < told.sayings; last++) {
            for (int before = 0; before < 1 << last; before++) {
                if ((sound >> before & 1) == 0) {
                    continue;
                }
                takeLeft(before);
                mind.weighSaying(trial, last);
                // A saying that strikes nothing is never among the fewest, here or further on.
                if (trial.hear(mind.result()) > 0) {
                    int set = before | 1 << last;
                    trial.note(left, set);
                    sound |= 1L << set;
                }
            }
        }
        return sound;
    }

    private void takeLeft(int set) {
        trial.follow(now);
        trial.keepNoted(left, set);
    }

    private boolean goJust(int people, int set, int n) {
        takeLeft(set);
        int all = 0;
        for (int night = 0; night < n && (all & ~people) == 0; night++) {
            int before = trial.count;
            int went = mind.pass(trial);
            if (went == 0 && trial.count == before) {
                break;
            }
            all |= went;
        }
        return all == people;
    }

    private int countFits(int k) {
        if (!guesses.fresh) {
            for (int saying = 0; saying <= told.sayings; saying++) {
                guesses.learn(told, saying, mind);
            }
            guesses.fresh = true;
        }
        return guesses.scan(told, sights, k);
    }

    /** The bytes that were fed and not yet read. */
    private static final class Tape {
        static final int LIMIT = 1600;
        private static final int FED = 20;
        private final byte[] bytes = new byte[LIMIT];
        int length = 0;

        int take(int a, int b, int c, int d, int e) {
            if (length + FED > LIMIT) {
                return NONE;
            }
            put(a);
            put(b);
            put(c);
            put(d);
            put(e);
            return length;
        }

        private void put(int number) {
            for (int shift = 24; shift >= 0 && length < LIMIT; shift -= 8) {
                bytes[length] = (byte) (number >> shift);
                length++;
            }
        }

        /** The byte at a place; NONE behind the end. */
        int at(int place) {
            return place >= 0 && place < length ? bytes[place] & 255 : NONE;
        }
    }

    /** The kinds of tokens, and of the steps of a formula; a sign's kind is its own byte. */
    private static final class Kind {
        static final int FIRST_WORD = 256;
        static final int ONE = 256;
        static final int MARKED = 257;
        static final int MIRROR = 258;
        static final int STAYS = 259;
        static final int BLIND = 260;
        static final int LAW = 261;
        static final int HAS = 262;
        static final int OWN = 263;
        static final int SAYING = 264;
        static final int OR = 265;
        static final int AND = 266;
        static final int NOT = 267;
        static final int MARKS = 268;
        static final int GONE = 269;
        static final int KNOWS = 270;
        static final int ALL = 271;
        static final int COMMON = 272;
        static final int WORDS = 17;
        static final int NAME = 273;
        static final int NUMBER = 274;
        static final int END = 275;
        static final int BAD = 276;
        /** Takes the place of the token behind a fault: it fits nowhere, so that reading ends. */
        static final int STOP = 277;
        /** The words in the order of their numbers, eight places each. */
        static final String TEXTS = "one     marked  mirror  stays   blind   law     has     own     saying  or      and     not     marks   gone    knows   all     common  ";
        static final String SIGNS = ";()<>=+-*/";
        static final int RELATION_RANK = 2;
        static final int TIMES_RANK = 4;

        private Kind() {
        }

        static boolean opens(int kind) {
            return kind == KNOWS || kind == ALL || kind == COMMON || kind == '(';
        }

        static boolean isLeaf(int kind) {
            return kind == NUMBER || kind == MARKS || kind == HAS || kind == GONE;
        }

        static boolean startsUnit(int kind) {
            return isLeaf(kind) || opens(kind);
        }

        /** How strongly a joint between two parts of a formula binds; NONE if it is no joint. */
        static int rankOf(int kind) {
            switch (kind) {
                case OR:
                    return 0;
                case AND:
                    return 1;
                case '<':
                case '>':
                case '=':
                    return RELATION_RANK;
                case '+':
                case '-':
                    return RELATION_RANK + 1;
                case '*':
                case '/':
                    return TIMES_RANK;
                default:
                    return NONE;
            }
        }
    }

    /** Formulas as steps, operands first. */
    private static final class Code {
        /** Above 60 units, 59 steps between them, and 7 nots at most ahead of each unit. */
        private static final int LIMIT = 600;
        private static final int SHIFT = 14;
        private final int[] steps = new int[LIMIT];
        int size = 0;

        void add(int kind, int of) {
            if (size < LIMIT) {
                steps[size] = kind << SHIFT | of;
                size++;
            }
        }

        int kindAt(int i) {
            return i >= 0 && i < size ? steps[i] >> SHIFT : NONE;
        }

        int ofAt(int i) {
            return i >= 0 && i < size ? steps[i] & (1 << SHIFT) - 1 : NONE;
        }
    }

    /** What is told of an island, and never changes on it. */
    private static final class Island {
        static final int PEOPLE = 8;
        static final int WORLDS = 256;
        static final int BLINDS = 30;
        static final int SAYINGS = 6;
        int people;
        int marked;
        int stayers;
        int blinds;
        int sayings;
        int units;
        boolean lawTold;
        boolean ownLaw;
        private final long[] names = new long[PEOPLE];
        /** Whose marks each sees, as bits. */
        final int[] seen = new int[PEOPLE];
        final Code code = new Code();
        /** Where each saying's steps start (the first at 0), and behind them the end of the last. */
        final int[] starts = new int[SAYINGS + 1];

        void clear() {
            people = 0;
            marked = 0;
            stayers = 0;
            blinds = 0;
            sayings = 0;
            lawTold = false;
            ownLaw = false;
            code.size = 0;
        }

        boolean isPerson(int one) {
            return one >= 0 && one < people;
        }

        boolean arePeople(int set) {
            return set >= 0 && set < worldCount();
        }

        boolean isWorld(int world) {
            return world >= 0 && world < worldCount();
        }

        int worldCount() {
            return 1 << people;
        }

        boolean takesPeople() {
            return people < PEOPLE && blinds == 0 && !lawTold && sayings == 0;
        }

        /** A new one, who sees all others and is seen by them. */
        void addPerson(long name) {
            if (people < PEOPLE) {
                for (int other = 0; other < people; other++) {
                    seen[other] |= 1 << people;
                }
                seen[people] = (1 << people) - 1;
                names[people] = name;
                people++;
            }
        }

        int find(long name) {
            for (int one = 0; one < people; one++) {
                if (names[one] == name) {
                    return one;
                }
            }
            return NONE;
        }

        void giveMirror(int one) {
            if (isPerson(one)) {
                seen[one] |= 1 << one;
            }
        }

        boolean canBlind(int one, int other) {
            return isPerson(one) && one != other && (seen[one] >> other & 1) == 1;
        }

        void addBlind(int one, int other) {
            if (isPerson(one)) {
                seen[one] &= ~(1 << other);
            }
            blinds++;
        }

        /** What was added to the code since the last saying is the next one. */
        void endSaying() {
            if (sayings < SAYINGS) {
                sayings++;
                starts[sayings] = code.size;
            }
        }
    }

    /** The tokens of a text, up to the first place where there is none. */
    private static final class Tokens {
        private static final int WORD_LENGTH = 8;
        private static final int NUMBER_LENGTH = 4;
        private final Tape tape;
        private final long[] words = new long[Kind.WORDS];
        private final int[] kinds = new int[Tape.LIMIT + 1];
        private final int[] places = new int[Tape.LIMIT + 1];
        /** A number's value, or a word's letters, eight bits each. */
        private final long[] values = new long[Tape.LIMIT + 1];
        private int count = 0;
        private int at = 0;

        Tokens(Tape from) {
            tape = from;
            for (int i = 0; i < Kind.WORDS; i++) {
                for (int k = i * WORD_LENGTH; k < (i + 1) * WORD_LENGTH; k++) {
                    if (k < Kind.TEXTS.length() && Kind.TEXTS.charAt(k) != ' ') {
                        words[i] = words[i] << 8 | Kind.TEXTS.charAt(k);
                    }
                }
            }
        }

        void scan() {
            count = 0;
            at = 0;
            int kind = Kind.NAME;
            // Each token takes a byte at least, and the end one place more.
            while (count <= Tape.LIMIT && kind != Kind.END && kind != Kind.BAD) {
                skipBlanks();
                places[count] = at;
                values[count] = 0;
                kind = take();
                kinds[count] = kind;
                count++;
            }
        }

        int kindOf(int i) {
            return i >= 0 && i < count ? kinds[i] : Kind.END;
        }

        int placeOf(int i) {
            return i >= 0 && i < count ? places[i] : tape.length;
        }

        long valueOf(int i) {
            return i >= 0 && i < count ? values[i] : 0;
        }

        private void skipBlanks() {
            while (at < tape.length && (tape.at(at) == ' ' || tape.at(at) == 10)) {
                at++;
            }
        }

        /** Goes behind the token that stands here: its kind. */
        private int take() {
            int first = tape.at(at);
            if (first == NONE) {
                return Kind.END;
            }
            if (isLetter(first)) {
                return takeWord();
            }
            if (isDigit(first)) {
                return takeNumber();
            }
            at++;
            return Kind.SIGNS.indexOf((char) first) >= 0 ? first : Kind.BAD;
        }

        private int takeWord() {
            int start = at;
            long word = 0;
            while (at < tape.length && isLetter(tape.at(at))) {
                word = word << 8 | tape.at(at);
                at++;
            }
            if (at - start > WORD_LENGTH) {
                return Kind.BAD;
            }
            values[count] = word;
            for (int i = 0; i < Kind.WORDS; i++) {
                if (words[i] == word) {
                    return Kind.FIRST_WORD + i;
                }
            }
            return Kind.NAME;
        }

        private int takeNumber() {
            int start = at;
            int value = 0;
            while (at < tape.length && isDigit(tape.at(at))) {
                value = value * 10 + tape.at(at) - '0';
                at++;
            }
            values[count] = value;
            boolean bad = at - start > NUMBER_LENGTH || isLetter(tape.at(at));
            return bad ? Kind.BAD : Kind.NUMBER;
        }

        private static boolean isLetter(int c) {
            return c >= 'a' && c <= 'z';
        }

        private static boolean isDigit(int c) {
            return c >= '0' && c <= '9';
        }
    }

    /** Reads an island or a formula, up to the first fault. */
    private static final class Reader {
        private static final int NO_TOKEN = 1;
        private static final int OUT_OF_PLACE = 2;
        private static final int TOLD_ALREADY = 3;
        private static final int NOBODY = 4;
        private static final int ISLAND_UNITS = 60;
        private static final int FORMULA_UNITS = 30;
        private static final int WITHIN = 6;
        int fault = 0;
        int place = NONE;
        private final Tokens tokens;
        private Island island;
        private Code code;
        private int unitLimit = 0;
        private int units = 0;
        private int at = 0;
        private int kind = Kind.END;

        Reader(Tape from, Island of, Code into) {
            tokens = new Tokens(from);
            island = of;
            code = into;
        }

        boolean readIsland(Island into) {
            into.clear();
            begin(into, into.code, ISLAND_UNITS);
            for (int i = 0; i < Tape.LIMIT && kind != Kind.END && fault == 0; i++) {
                switch (kind) {
                    case Kind.ONE:
                        readPerson();
                        break;
                    case Kind.BLIND:
                        readBlind();
                        break;
                    case Kind.LAW:
                        readLaw();
                        break;
                    case Kind.SAYING:
                        readSaying();
                        break;
                    default:
                        fail(OUT_OF_PLACE);
                        break;
                }
                expect(';');
            }
            into.units = units;
            return fault == 0;
        }

        boolean readFormula(Island of, Code into) {
            into.size = 0;
            begin(of, into, FORMULA_UNITS);
            readPart(0, 0);
            if (kind != Kind.END) {
                fail(OUT_OF_PLACE);
            }
            return fault == 0;
        }

        private void begin(Island of, Code into, int limit) {
            island = of;
            code = into;
            unitLimit = limit;
            units = 0;
            fault = 0;
            place = NONE;
            tokens.scan();
            at = 0;
            kind = tokens.kindOf(0);
        }

        private void readPerson() {
            if (!island.takesPeople()) {
                fail(OUT_OF_PLACE);
            }
            advance();
            long name = tokens.valueOf(at);
            int one = island.people;
            if (kind != Kind.NAME) {
                fail(OUT_OF_PLACE);
            } else if (island.find(name) != NONE) {
                fail(TOLD_ALREADY);
            } else {
                island.addPerson(name);
                advance();
            }
            if (accept(Kind.MARKED)) {
                island.marked |= 1 << one;
            }
            if (accept(Kind.MIRROR)) {
                island.giveMirror(one);
            }
            if (accept(Kind.STAYS)) {
                island.stayers |= 1 << one;
            }
        }

        private void readBlind() {
            if (island.blinds >= Island.BLINDS) {
                fail(OUT_OF_PLACE);
            }
            advance();
            int one = readName();
            advance();
            int other = readName();
            if (fault == 0 && !island.canBlind(one, other)) {
                fail(TOLD_ALREADY);
            }
            if (fault == 0) {
                island.addBlind(one, other);
            }
            advance();
        }

        private void readLaw() {
            if (island.lawTold) {
                fail(OUT_OF_PLACE);
            }
            island.lawTold = true;
            advance();
            if (accept(Kind.OWN)) {
                island.ownLaw = true;
            } else {
                expect(Kind.HAS);
            }
        }

        private void readSaying() {
            if (island.sayings >= Island.SAYINGS) {
                fail(OUT_OF_PLACE);
            }
            advance();
            readPart(0, 0);
            island.endSaying();
        }

        /**
         * Reads the longest part of a formula whose joints bind at least as the rank asks (0: the
         * whole). Within: how many units with ( ), and ones behind not, it stands in.
         */
        private void readPart(int rank, int within) {
            int highest = Kind.TIMES_RANK;
            if (kind == Kind.NOT && rank <= Kind.RELATION_RANK && within <= WITHIN) {
                advance();
                readPart(Kind.RELATION_RANK, within + 1);
                code.add(Kind.NOT, 0);
                highest = Kind.RELATION_RANK - 1;
            } else {
                readUnit(within);
            }
            for (int i = 0; i < Tape.LIMIT; i++) {
                int joint = kind;
                int here = Kind.rankOf(joint);
                if (here < rank || here > highest) {
                    break;
                }
                advance();
                readPart(here + 1, within);
                code.add(joint, 0);
                // Behind a relation no other can follow; behind the rest one of the same rank may.
                highest = here == Kind.RELATION_RANK ? here - 1 : here;
            }
        }

        private void readUnit(int within) {
            int first = kind;
            boolean opens = Kind.opens(first);
            if (!Kind.startsUnit(first) || units >= unitLimit || opens && within > WITHIN) {
                fail(OUT_OF_PLACE);
                return;
            }
            units++;
            int of = first == Kind.NUMBER ? (int) tokens.valueOf(at) : 0;
            advance();
            if (first == Kind.HAS || first == Kind.GONE || first == Kind.KNOWS) {
                of = Math.max(readName(), 0);
                advance();
            }
            if (opens) {
                if (first != '(') {
                    expect('(');
                }
                readPart(0, within + 1);
                expect(')');
            }
            if (first != '(') {
                code.add(first, of);
            }
        }

        /** The number of the one whose name stands here; NONE with a fault. */
        private int readName() {
            if (kind != Kind.NAME) {
                fail(OUT_OF_PLACE);
                return NONE;
            }
            int one = island.find(tokens.valueOf(at));
            if (one == NONE) {
                fail(NOBODY);
            }
            return one;
        }

        private boolean accept(int wanted) {
            boolean here = kind == wanted;
            if (here) {
                advance();
            }
            return here;
        }

        private void expect(int wanted) {
            if (kind == wanted) {
                advance();
            } else {
                fail(OUT_OF_PLACE);
            }
        }

        /** Only the first fault counts: reading goes by place, so no later one stands before it. */
        private void fail(int what) {
            if (fault == 0) {
                fault = kind == Kind.BAD ? NO_TOKEN : what;
                place = tokens.placeOf(at);
                kind = Kind.STOP;
            }
        }

        private void advance() {
            if (fault == 0) {
                at++;
                kind = tokens.kindOf(at);
            }
        }
    }

    /** For each of the people, which worlds are alike to him: those of one group. */
    private static final class Views {
        private final int[][] groups = new int[Island.PEOPLE][Island.WORLDS];
        private final int[] firsts = new int[2 * Island.WORLDS];

        void open(Island island) {
            for (int one = 0; one < island.people; one++) {
                for (int world = 0; world < island.worldCount(); world++) {
                    groups[one][world] = world & island.seen[one];
                }
            }
        }

        /** The group of each world to one; to one that can't be, the first one's. */
        int[] of(int one) {
            return groups[one >= 0 && one < Island.PEOPLE ? one : 0];
        }

        boolean areAlike(int one, int a, int b) {
            return of(one)[a] == of(one)[b];
        }

        /** Parts one's groups by whether the row is 0; a group is called by a world of its own. */
        void split(int one, int[] row, Scene scene) {
            int[] group = of(one);
            Arrays.fill(firsts, NONE);
            for (int i = 0; i < scene.count; i++) {
                int world = scene.list[i];
                int key = 2 * group[world] + (row[world] != 0 ? 1 : 0);
                if (firsts[key] == NONE) {
                    firsts[key] = world;
                }
                group[world] = firsts[key];
            }
        }

        void copy(Views other) {
            for (int one = 0; one < Island.PEOPLE; one++) {
                System.arraycopy(other.groups[one], 0, groups[one], 0, Island.WORLDS);
            }
        }
    }

    /** What is possible on an island, and who is gone. */
    private static final class Scene {
        final Views views;
        Island island;
        /** The possible worlds, the least first. */
        final int[] list = new int[Island.WORLDS];
        int count = 0;
        int gone = 0;
        int nights = 0;
        int whispers = 0;

        Scene(Island on, Views seen) {
            island = on;
            views = seen;
        }

        void open(Island on) {
            island = on;
            count = on.worldCount();
            for (int world = 0; world < count; world++) {
                list[world] = world;
            }
            gone = 0;
            nights = 0;
            whispers = 0;
            views.open(on);
        }

        void copy(Scene other) {
            follow(other);
            nights = other.nights;
            whispers = other.whispers;
            views.copy(other.views);
        }

        /** Goes on from another that has the same views. */
        void follow(Scene other) {
            island = other.island;
            System.arraycopy(other.list, 0, list, 0, other.count);
            count = other.count;
            gone = other.gone;
        }

        boolean contains(int world) {
            for (int i = 0; i < count; i++) {
                if (list[i] == world) {
                    return true;
                }
            }
            return false;
        }

        int countSo(int[] row) {
            int so = 0;
            for (int i = 0; i < count; i++) {
                so += row[list[i]] != 0 ? 1 : 0;
            }
            return so;
        }

        /** All hear what the row tells: how many worlds are struck; NONE if it is not so. */
        int hear(int[] row) {
            return row[island.marked] != 0 ? keepSo(row) : NONE;
        }

        int keepSo(int[] row) {
            int kept = 0;
            for (int i = 0; i < count; i++) {
                if (row[list[i]] != 0) {
                    list[kept] = list[i];
                    kept++;
                }
            }
            int struck = count - kept;
            count = kept;
            return struck;
        }

        void keepEqual(int[] row, int value) {
            int kept = 0;
            for (int i = 0; i < count; i++) {
                if (row[list[i]] == value) {
                    list[kept] = list[i];
                    kept++;
                }
            }
            count = kept;
        }

        void note(long[] notes, int set) {
            for (int i = 0; i < count; i++) {
                notes[list[i]] |= 1L << set;
            }
        }

        void keepNoted(long[] notes, int set) {
            int kept = 0;
            for (int i = 0; i < count; i++) {
                if ((notes[list[i]] >> set & 1) == 1) {
                    list[kept] = list[i];
                    kept++;
                }
            }
            count = kept;
        }
    }

    /** Weighs formulas in all possible worlds at once, a row of values each, and who would go. */
    private static final class Mind {
        /** Above 5 rows that wait in each of 8 formulas within one another, and the last. */
        private static final int ROWS = 44;
        private final int[][] rows = new int[ROWS][Island.WORLDS];
        private final int[] spare = new int[Island.WORLDS];
        private final int[] known = new int[Island.WORLDS];
        private final int[] roots = new int[Island.WORLDS];
        private final int[] goers = new int[Island.WORLDS];
        private int top = 0;

        /** The values of the formula that was weighed last, by world. */
        int[] result() {
            return rows[0];
        }

        void weighSaying(Scene scene, int i) {
            Island island = scene.island;
            if (i >= 0 && i < island.sayings) {
                weigh(scene, island.code, island.starts[i], island.starts[i + 1]);
            }
        }

        void weigh(Scene scene, Code code, int from, int to) {
            top = 0;
            for (int i = from; i < to; i++) {
                int kind = code.kindAt(i);
                if (Kind.isLeaf(kind)) {
                    pushLeaf(scene, kind, code.ofAt(i));
                } else if (Kind.rankOf(kind) != NONE) {
                    joinTop(scene, kind);
                } else if (top >= 1) {
                    int[] row = rows[top - 1];
                    switch (kind) {
                        case Kind.NOT:
                            negate(scene, row);
                            break;
                        case Kind.KNOWS:
                            knowsOne(scene, code.ofAt(i), row);
                            break;
                        case Kind.ALL:
                            knowAll(scene, row);
                            break;
                        default:
                            knowInCommon(scene, row);
                            break;
                    }
                }
            }
        }

        private void pushLeaf(Scene scene, int kind, int of) {
            if (top >= ROWS) {
                return;
            }
            int[] row = rows[top];
            top++;
            for (int i = 0; i < scene.count; i++) {
                int world = scene.list[i];
                row[world] = leaf(kind, of, world, scene.gone);
            }
        }

        private static int leaf(int kind, int of, int world, int gone) {
            switch (kind) {
                case Kind.NUMBER:
                    return of;
                case Kind.MARKS:
                    return Integer.bitCount(world);
                case Kind.HAS:
                    return world >> of & 1;
                default:
                    return gone >> of & 1;
            }
        }

        private static void negate(Scene scene, int[] row) {
            for (int i = 0; i < scene.count; i++) {
                int world = scene.list[i];
                row[world] = row[world] == 0 ? 1 : 0;
            }
        }

        /** The two last rows become one. */
        private void joinTop(Scene scene, int kind) {
            if (top < 2) {
                return;
            }
            top--;
            int[] left = rows[top - 1];
            int[] right = rows[top];
            for (int i = 0; i < scene.count; i++) {
                int world = scene.list[i];
                left[world] = joined(kind, left[world], right[world]);
            }
        }

        private static int joined(int kind, int a, int b) {
            switch (kind) {
                case '+':
                    return a + b;
                case '-':
                    return a - b;
                case '*':
                    return a * b;
                case '/':
                    return b == 0 ? 0 : a / b;
                case '<':
                    return a < b ? 1 : 0;
                case '>':
                    return a > b ? 1 : 0;
                case '=':
                    return a == b ? 1 : 0;
                case Kind.AND:
                    return a != 0 && b != 0 ? 1 : 0;
                default:
                    return a != 0 || b != 0 ? 1 : 0;
            }
        }

        /** In the row known: 1 for each of one's groups in all worlds of which the row is not 0. */
        private void markKnown(Scene scene, int[] group, int[] row) {
            for (int i = 0; i < scene.count; i++) {
                known[group[scene.list[i]]] = 1;
            }
            for (int i = 0; i < scene.count; i++) {
                int world = scene.list[i];
                if (row[world] == 0) {
                    known[group[world]] = 0;
                }
            }
        }

        private void knowsOne(Scene scene, int one, int[] row) {
            int[] group = scene.views.of(one);
            markKnown(scene, group, row);
            for (int i = 0; i < scene.count; i++) {
                int world = scene.list[i];
                row[world] = known[group[world]];
            }
        }

        private void knowAll(Scene scene, int[] row) {
            Arrays.fill(spare, 1);
            for (int one = 0; one < scene.island.people; one++) {
                int[] group = scene.views.of(one);
                markKnown(scene, group, row);
                for (int i = 0; i < scene.count; i++) {
                    int world = scene.list[i];
                    spare[world] &= known[group[world]];
                }
            }
            System.arraycopy(spare, 0, row, 0, Island.WORLDS);
        }

        /**
         * Known in common is what is so in all worlds that hang together by any chain of groups:
         * all know, all know that all know and so on never leads out of them.
         */
        private void knowInCommon(Scene scene, int[] row) {
            linkGroups(scene);
            Arrays.fill(spare, 1);
            for (int i = 0; i < scene.count; i++) {
                int world = scene.list[i];
                if (row[world] == 0) {
                    spare[rootOf(world)] = 0;
                }
            }
            for (int i = 0; i < scene.count; i++) {
                int world = scene.list[i];
                row[world] = spare[rootOf(world)];
            }
        }

        private void linkGroups(Scene scene) {
            for (int world = 0; world < Island.WORLDS; world++) {
                roots[world] = world;
            }
            for (int one = 0; one < scene.island.people; one++) {
                int[] group = scene.views.of(one);
                Arrays.fill(known, NONE);
                for (int i = 0; i < scene.count; i++) {
                    int world = scene.list[i];
                    int first = known[group[world]];
                    if (first == NONE) {
                        known[group[world]] = world;
                    } else {
                        int a = rootOf(first);
                        int b = rootOf(world);
                        roots[Math.max(a, b)] = Math.min(a, b);
                    }
                }
            }
        }

        private int rootOf(int world) {
            int at = world;
            // A world that is no root hangs on a lesser one, so the way up has an end.
            for (int i = 0; i < Island.WORLDS && roots[at] != at; i++) {
                roots[at] = roots[roots[at]];
                at = roots[at];
            }
            return at;
        }

        /** DEEP of the formula that was weighed last. */
        int depth(Scene scene) {
            int world = scene.island.marked;
            int[] row = rows[0];
            int[] common = rows[1];
            if (row[world] == 0) {
                return NONE;
            }
            System.arraycopy(row, 0, common, 0, Island.WORLDS);
            knowInCommon(scene, common);
            if (common[world] != 0) {
                return IN_COMMON;
            }
            for (int deep = 0; deep < DEEPEST; deep++) {
                knowAll(scene, row);
                if (row[world] == 0) {
                    return deep;
                }
            }
            return DEEPEST;
        }

        /** What one knows in the true world of his own mark. */
        int ownMark(Scene scene, int one) {
            int[] group = scene.views.of(one);
            markOwn(scene, one, group);
            switch (known[group[scene.island.marked]]) {
                case 1:
                    return 1;
                case 2:
                    return 0;
                default:
                    return UNKNOWN;
            }
        }

        /** In the row known, for each of one's groups: 1 if he has a mark in some, 2 if none. */
        private void markOwn(Scene scene, int one, int[] group) {
            for (int i = 0; i < scene.count; i++) {
                known[group[scene.list[i]]] = 0;
            }
            for (int i = 0; i < scene.count; i++) {
                int world = scene.list[i];
                known[group[world]] |= (world >> one & 1) == 1 ? 1 : 2;
            }
        }

        /** Who would go in each possible world, as bits by world. */
        int[] findGoers(Scene scene) {
            Arrays.fill(goers, 0);
            int fixed = scene.gone | scene.island.stayers;
            for (int one = 0; one < scene.island.people; one++) {
                if ((fixed >> one & 1) == 1) {
                    continue;
                }
                int[] group = scene.views.of(one);
                markOwn(scene, one, group);
                for (int i = 0; i < scene.count; i++) {
                    int world = scene.list[i];
                    int seen = known[group[world]];
                    if (seen == 1 || seen == 2 && scene.island.ownLaw) {
                        goers[world] |= 1 << one;
                    }
                }
            }
            return goers;
        }

        /** A night comes, and all see by morning who went: those, as bits. */
        int pass(Scene scene) {
            findGoers(scene);
            int went = goers[scene.island.marked];
            scene.keepEqual(goers, went);
            scene.gone |= went;
            scene.nights++;
            return went;
        }
    }

    /** What was told of who went when, and the time. */
    private static final class Sights {
        static final int NIGHTS = 12;
        private static final int LIMIT = 20;
        private static final int MOST_BY = 1000;
        private static final int LAST_TIME = 100000;
        private final int[] ones = new int[LIMIT];
        private final int[] nights = new int[LIMIT];
        private final boolean[] wents = new boolean[LIMIT];
        private final int[] toldAt = new int[LIMIT];
        private final int[] untoldAt = new int[LIMIT];
        int count = 0;
        int time = 0;

        int tell(int one, int night, boolean went) {
            if (night < 1 || night > NIGHTS || count >= LIMIT) {
                return NONE;
            }
            ones[count] = one;
            nights[count] = night;
            wents[count] = went;
            toldAt[count] = time;
            untoldAt[count] = NONE;
            count++;
            return count - 1;
        }

        boolean takeBack(int i) {
            if (i < 0 || i >= count || untoldAt[i] != NONE) {
                return false;
            }
            untoldAt[i] = time;
            return true;
        }

        int goOn(int by) {
            if (by < 0 || by > MOST_BY || time + by > LAST_TIME) {
                return NONE;
            }
            time += by;
            return time;
        }

        private boolean counts(int i, int k) {
            return toldAt[i] <= k && (untoldAt[i] == NONE || untoldAt[i] > k);
        }

        /** Whether all that counts at k is so, if people went on these nights (see Guesses). */
        boolean agree(int wentOn, int k) {
            for (int i = 0; i < count; i++) {
                boolean went = Guesses.nightOf(wentOn, ones[i]) == nights[i];
                if (counts(i, k) && went != wents[i]) {
                    return false;
                }
            }
            return true;
        }
    }

    /** Each world and saying that may have been at first, with who goes when by it. */
    private static final class Guesses {
        static final int PEOPLE = 6;
        private static final int WORLDS = 64;
        private static final int NIGHT_BITS = 4;
        /** By saying (the last: nothing) and world: four bits for each one's night; NONE: not so. */
        private final int[][] wentOn = new int[Island.SAYINGS + 1][WORLDS];
        private final Scene first;
        private final int[] gone = new int[Island.WORLDS];
        private final int[] wentRow = new int[Island.WORLDS];
        boolean fresh = false;
        /** Of the worlds that fit: who has a mark in some, and who has none in some. */
        int with = 0;
        int without = 0;

        Guesses(Island island) {
            first = new Scene(island, new Views());
        }

        static int nightOf(int nights, int one) {
            return nights >> NIGHT_BITS * one & (1 << NIGHT_BITS) - 1;
        }

        /**
         * No world is struck here by who went: all that can't be told apart by it part their
         * groups instead, so that the nights of all true worlds pass at once.
         */
        void learn(Island island, int saying, Mind mind) {
            int[] nights = wentOn[saying];
            Arrays.fill(nights, NONE);
            Arrays.fill(gone, 0);
            first.open(island);
            if (saying < island.sayings) {
                mind.weighSaying(first, saying);
                first.keepSo(mind.result());
            }
            for (int i = 0; i < first.count; i++) {
                nights[first.list[i]] = 0;
            }
            for (int night = 1; night <= Sights.NIGHTS; night++) {
                int[] goers = mind.findGoers(first);
                for (int one = 0; one < island.people; one++) {
                    sendOne(one, goers, nights, night);
                }
            }
        }

        private void sendOne(int one, int[] goers, int[] nights, int night) {
            int some = 0;
            for (int i = 0; i < first.count; i++) {
                int world = first.list[i];
                wentRow[world] = (goers[world] & ~gone[world]) >> one & 1;
                some |= wentRow[world];
                gone[world] |= wentRow[world] << one;
                nights[world] |= wentRow[world] * night << NIGHT_BITS * one;
            }
            for (int other = 0; some == 1 && other < first.island.people; other++) {
                first.views.split(other, wentRow, first);
            }
        }

        /** How many fit as known at k; with and without tell their marks. */
        int scan(Island island, Sights sights, int k) {
            int fitting = 0;
            with = 0;
            without = 0;
            for (int saying = 0; saying <= island.sayings; saying++) {
                for (int world = 0; world < island.worldCount() && world < WORLDS; world++) {
                    int nights = wentOn[saying][world];
                    if (nights != NONE && sights.agree(nights, k)) {
                        fitting++;
                        with |= world;
                        without |= ~world;
                    }
                }
            }
            return fitting;
        }
    }
}
