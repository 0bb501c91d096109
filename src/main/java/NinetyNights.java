import java.util.Arrays;

/**
 * An island whose people have a mark or none, see others' and not their own, and go by the night
 * boat once they know. All rows are made with the object, so that no call makes a new one.
 */
public final class NinetyNights {
    public static final int NONE = -1;
    public static final int GAP = -1000000;

    private static final int UNKNOWN = -2;
    private static final int SPENT_FITS = -2;
    private static final int SPENT_SURE = -3;
    private static final int MOST_NIGHTS = 300;
    private static final int MOST_WHISPERS = 8;
    private static final int BOXES = 3;
    private static final int DEEPEST = 98;
    private static final int IN_COMMON = 99;

    private final Tape tape = new Tape();
    private final Code formula = new Code();
    private Island told = new Island();
    private Island draft = new Island();
    private final Reader reader = new Reader(tape, told, formula);
    private final Mind mind = new Mind();
    private final Scene now = new Scene(told, new Views());
    /** What is tried out: it shares the views of now, for nothing is whispered in a trial. */
    private final Scene trial = new Scene(told, now.views);
    private final Scene[] boxes = new Scene[BOXES];
    private final boolean[] filled = new boolean[BOXES];
    private final Sights sights = new Sights();
    private final Guesses guesses = new Guesses(told);
    /** For each world the sets of sayings (a bit for each of the 64) behind which it is possible. */
    private final long[] left = new long[Island.WORLDS];

    public NinetyNights() {
        for (int box = 0; box < BOXES; box++) {
            boxes[box] = new Scene(told, new Views());
        }
        now.open(told);
    }

    public int feed(int a, int b, int c, int d, int e) {
        return tape.take(a, b, c, d, e);
    }

    public int end(int n) {
        if (n < 0 || n > tape.length) {
            return NONE;
        }
        tape.length = n;
        return n;
    }

    public int island() {
        boolean good = reader.readIsland(draft);
        tape.length = 0;
        if (!good) {
            return NONE;
        }
        Island old = told;
        told = draft;
        draft = old;
        now.open(told);
        for (int box = 0; box < BOXES; box++) {
            filled[box] = false;
        }
        sights.count = 0;
        guesses.fresh = false;
        return told.people;
    }

    public int fault(int what) {
        if (what == 0) {
            return reader.fault;
        }
        return what == 1 ? reader.place : NONE;
    }

    public int sees(int one) {
        return told.isPerson(one) ? told.views[one] : NONE;
    }

    public int worlds() {
        return now.count;
    }

    public int possible(int world) {
        if (!told.isWorld(world)) {
            return NONE;
        }
        return now.contains(world) ? 1 : 0;
    }

    public int like(int one, int a, int b) {
        if (!told.isPerson(one) || !told.isWorld(a) || !told.isWorld(b)) {
            return NONE;
        }
        boolean both = now.contains(a) && now.contains(b);
        return both && now.views.areAlike(one, a, b) ? 1 : 0;
    }

    public int own(int one) {
        return told.isPerson(one) ? mind.ownMark(now, one) : NONE;
    }

    public int ask() {
        return weighTape() ? mind.result()[told.marked] : GAP;
    }

    public int holds() {
        return weighTape() ? now.countSo(mind.result()) : NONE;
    }

    public int deep() {
        return weighTape() ? mind.depth(now) : GAP;
    }

    public int say() {
        return weighTape() ? now.hear(mind.result()) : NONE;
    }

    public int saying(int i) {
        if (i < 0 || i >= told.sayings) {
            return NONE;
        }
        weighSaying(now, i);
        return now.hear(mind.result());
    }

    public int whisper(int people) {
        if (!weighTape() || !told.arePeople(people) || now.whispers >= MOST_WHISPERS) {
            return NONE;
        }
        int[] row = mind.result();
        for (int one = 0; one < told.people; one++) {
            if ((people >> one & 1) == 1) {
                now.views.split(one, row, now);
            }
        }
        now.whispers++;
        return row[told.marked] != 0 ? 1 : 0;
    }

    public int night() {
        return now.nights < MOST_NIGHTS ? mind.pass(now) : NONE;
    }

    public int gone() {
        return now.gone;
    }

    public int when(int one) {
        if (!told.isPerson(one) || (now.gone >> one & 1) == 1) {
            return NONE;
        }
        trial.follow(now);
        // Every night but the last strikes a world or sends somebody away: 300 are never needed.
        for (int night = 1; night <= MOST_NIGHTS; night++) {
            int before = trial.count;
            int went = mind.pass(trial);
            if ((went >> one & 1) == 1) {
                return night;
            }
            if (went == 0 && trial.count == before) {
                return NONE;
            }
        }
        return NONE;
    }

    public int fewest(int people, int n) {
        if (!told.arePeople(people) || n < 1 || n > Sights.NIGHTS) {
            return NONE;
        }
        long sound = trySayings();
        for (int size = 0; size <= told.sayings; size++) {
            for (int set = 0; set < 1 << told.sayings; set++) {
                boolean fit = Integer.bitCount(set) == size && (sound >> set & 1) == 1;
                if (fit && goJust(people, set, n)) {
                    return set;
                }
            }
        }
        return NONE;
    }

    public int sight(int one, int night, boolean went) {
        return told.isPerson(one) ? sights.tell(one, night, went) : NONE;
    }

    public boolean untell(int sight) {
        return sights.takeBack(sight);
    }

    public int later(int by) {
        return sights.goOn(by);
    }

    public int fits(int k) {
        if (told.people > Guesses.PEOPLE) {
            return SPENT_FITS;
        }
        return countFits(k);
    }

    public int sure(int one, int k) {
        if (!told.isPerson(one)) {
            return NONE;
        }
        if (told.people > Guesses.PEOPLE) {
            return SPENT_SURE;
        }
        if (countFits(k) == 0) {
            return NONE;
        }
        boolean with = (guesses.with >> one & 1) == 1;
        boolean without = (guesses.without >> one & 1) == 1;
        if (with && without) {
            return UNKNOWN;
        }
        return with ? 1 : 0;
    }

    public int image(int box) {
        if (box < 0 || box >= BOXES) {
            return NONE;
        }
        boxes[box].copy(now);
        filled[box] = true;
        return now.nights;
    }

    public int back(int box) {
        if (box < 0 || box >= BOXES || !filled[box]) {
            return NONE;
        }
        now.copy(boxes[box]);
        return now.nights;
    }

    public int about(int what) {
        switch (what) {
            case 0:
                return told.people;
            case 1:
                return told.sayings;
            case 2:
                return told.marked;
            case 3:
                return now.nights;
            case 4:
                return now.whispers;
            case 5:
                return sights.count;
            case 6:
                return sights.time;
            case 7:
                return tape.length;
            case 8:
                return told.units;
            default:
                return NONE;
        }
    }

    /** Reads the tape as a formula and weighs it in all possible worlds; false if it has a fault. */
    private boolean weighTape() {
        boolean good = reader.readFormula(told, formula);
        tape.length = 0;
        if (good) {
            mind.weigh(now, formula, 0, formula.size);
        }
        return good;
    }

    private void weighSaying(Scene scene, int i) {
        mind.weigh(scene, told.code, told.starts[i], told.starts[i + 1]);
    }

    /**
     * Says each set of sayings, the least number first: what is left stands in the row left, and
     * the answer has a bit for each set all of whose sayings were so. A set's last saying is its
     * highest, so each set is the next step behind a lower one.
     */
    private long trySayings() {
        Arrays.fill(left, 0L);
        now.note(left, 0);
        long sound = 1L;
        for (int last = 0; last < told.sayings; last++) {
            for (int before = 0; before < 1 << last; before++) {
                if ((sound >> before & 1) == 0) {
                    continue;
                }
                takeLeft(before);
                weighSaying(trial, last);
                if (trial.hear(mind.result()) != NONE) {
                    int set = before | 1 << last;
                    trial.note(left, set);
                    sound |= 1L << set;
                }
            }
        }
        return sound;
    }

    private void takeLeft(int set) {
        trial.follow(now);
        trial.keepNoted(left, set);
    }

    private boolean goJust(int people, int set, int n) {
        takeLeft(set);
        int all = 0;
        for (int night = 0; night < n && (all & ~people) == 0; night++) {
            int before = trial.count;
            int went = mind.pass(trial);
            if (went == 0 && trial.count == before) {
                break;
            }
            all |= went;
        }
        return all == people;
    }

    private int countFits(int k) {
        if (!guesses.fresh) {
            guesses.learn(told, mind);
        }
        return guesses.scan(told, sights, k);
    }

    /** The bytes that were fed and not yet read. */
    private static final class Tape {
        static final int LIMIT = 1600;
        private static final int FED = 20;
        private final byte[] bytes = new byte[LIMIT];
        int length = 0;

        int take(int a, int b, int c, int d, int e) {
            if (length + FED > LIMIT) {
                return NONE;
            }
            put(a);
            put(b);
            put(c);
            put(d);
            put(e);
            return length;
        }

        private void put(int number) {
            for (int shift = 24; shift >= 0 && length < LIMIT; shift -= 8) {
                bytes[length] = (byte) (number >> shift);
                length++;
            }
        }

        /** The byte at a place; NONE behind the end. */
        int at(int place) {
            return place >= 0 && place < length ? bytes[place] & 255 : NONE;
        }
    }

    /** The kinds of tokens, and of the steps of a formula; a sign's kind is its own byte. */
    private static final class Kind {
        static final int FIRST_WORD = 256;
        static final int ONE = 256;
        static final int MARKED = 257;
        static final int MIRROR = 258;
        static final int STAYS = 259;
        static final int BLIND = 260;
        static final int LAW = 261;
        static final int HAS = 262;
        static final int OWN = 263;
        static final int SAYING = 264;
        static final int OR = 265;
        static final int AND = 266;
        static final int NOT = 267;
        static final int MARKS = 268;
        static final int GONE = 269;
        static final int KNOWS = 270;
        static final int ALL = 271;
        static final int COMMON = 272;
        static final int WORDS = 17;
        static final int NAME = 273;
        static final int NUMBER = 274;
        static final int END = 275;
        static final int BAD = 276;
        /** Takes the place of the token behind a fault: it fits nowhere, so that reading ends. */
        static final int STOP = 277;
        /** The words in the order of their numbers, eight places each. */
        static final String TEXTS = "one     marked  mirror  stays   blind   law     has     own     saying  or      and     not     marks   gone    knows   all     common  ";
        static final String SIGNS = ";()<>=+-*/";

        private Kind() {
        }

        static boolean opens(int kind) {
            return kind == KNOWS || kind == ALL || kind == COMMON || kind == '(';
        }

        static boolean startsUnit(int kind) {
            return opens(kind) || kind == NUMBER || kind == MARKS || kind == HAS || kind == GONE;
        }
    }

    /** Formulas as steps, operands first. */
    private static final class Code {
        /** Above 60 units, 59 steps between them, and 7 nots at most ahead of each unit. */
        private static final int LIMIT = 600;
        private static final int SHIFT = 14;
        private final int[] steps = new int[LIMIT];
        int size = 0;

        void add(int kind, int of) {
            if (size < LIMIT) {
                steps[size] = kind << SHIFT | of;
                size++;
            }
        }

        int kindAt(int i) {
            return i >= 0 && i < size ? steps[i] >> SHIFT : NONE;
        }

        int ofAt(int i) {
            return i >= 0 && i < size ? steps[i] & (1 << SHIFT) - 1 : NONE;
        }
    }

    /** What is told of an island, and never changes on it. */
    private static final class Island {
        static final int PEOPLE = 8;
        static final int WORLDS = 256;
        static final int BLINDS = 30;
        static final int SAYINGS = 6;
        int people;
        int marked;
        int mirrors;
        int stayers;
        int blinds;
        int sayings;
        int units;
        boolean lawTold;
        boolean ownLaw;
        private final long[] names = new long[PEOPLE];
        /** Whose marks each sees, as bits. */
        final int[] views = new int[PEOPLE];
        final Code code = new Code();
        /** Where each saying's steps start, and behind them the end of the last. */
        final int[] starts = new int[SAYINGS + 1];

        void clear() {
            people = 0;
            marked = 0;
            mirrors = 0;
            stayers = 0;
            blinds = 0;
            sayings = 0;
            units = 0;
            lawTold = false;
            ownLaw = false;
            code.size = 0;
        }

        boolean isPerson(int one) {
            return one >= 0 && one < people;
        }

        boolean arePeople(int set) {
            return set >= 0 && set < worldCount();
        }

        boolean isWorld(int world) {
            return world >= 0 && world < worldCount();
        }

        int worldCount() {
            return 1 << people;
        }

        boolean takesPeople() {
            return people < PEOPLE && blinds == 0 && !lawTold && sayings == 0;
        }

        /** A new one, who sees all others and is seen by them. */
        void addPerson(long name) {
            if (people < PEOPLE) {
                for (int other = 0; other < people; other++) {
                    views[other] |= 1 << people;
                }
                views[people] = (1 << people) - 1;
                names[people] = name;
                people++;
            }
        }

        int find(long name) {
            for (int one = 0; one < people; one++) {
                if (names[one] == name) {
                    return one;
                }
            }
            return NONE;
        }

        void giveMirror(int one) {
            mirrors |= 1 << one;
            if (isPerson(one)) {
                views[one] |= 1 << one;
            }
        }

        boolean canBlind(int one, int other) {
            return isPerson(one) && one != other && (views[one] >> other & 1) == 1;
        }

        void addBlind(int one, int other) {
            if (isPerson(one)) {
                views[one] &= ~(1 << other);
            }
            blinds++;
        }

        void startSaying() {
            if (sayings < SAYINGS) {
                starts[sayings] = code.size;
            }
        }

        void endSaying() {
            if (sayings < SAYINGS) {
                sayings++;
                starts[sayings] = code.size;
            }
        }
    }

    /** Reads the tape's tokens, and from them an island or a formula, up to the first fault. */
    private static final class Reader {
        private static final int NO_TOKEN = 1;
        private static final int OUT_OF_PLACE = 2;
        private static final int TOLD_ALREADY = 3;
        private static final int NOBODY = 4;
        private static final int ISLAND_UNITS = 60;
        private static final int FORMULA_UNITS = 30;
        private static final int WITHIN = 6;
        private static final int WORD_LENGTH = 8;
        private static final int NUMBER_LENGTH = 4;
        int fault = 0;
        int place = NONE;
        private final long[] words = new long[Kind.WORDS];
        private final Tape tape;
        private Island island;
        private Code code;
        private int unitLimit;
        private int units;
        private int at;
        private int start;
        private int kind;
        private int value;
        private long word;

        Reader(Tape from, Island of, Code into) {
            tape = from;
            island = of;
            code = into;
            for (int i = 0; i < Kind.WORDS; i++) {
                for (int k = i * WORD_LENGTH; k < (i + 1) * WORD_LENGTH; k++) {
                    if (k < Kind.TEXTS.length() && Kind.TEXTS.charAt(k) != ' ') {
                        words[i] = words[i] << 8 | Kind.TEXTS.charAt(k);
                    }
                }
            }
        }

        boolean readIsland(Island into) {
            into.clear();
            begin(into, into.code, ISLAND_UNITS);
            for (int i = 0; i < Tape.LIMIT && kind != Kind.END && fault == 0; i++) {
                readLine();
            }
            into.units = units;
            return fault == 0;
        }

        boolean readFormula(Island of, Code into) {
            into.size = 0;
            begin(of, into, FORMULA_UNITS);
            readEither(0);
            if (kind != Kind.END) {
                fail(OUT_OF_PLACE);
            }
            return fault == 0;
        }

        private void begin(Island of, Code into, int limit) {
            island = of;
            code = into;
            unitLimit = limit;
            units = 0;
            at = 0;
            fault = 0;
            place = NONE;
            advance();
        }

        private void readLine() {
            switch (kind) {
                case Kind.ONE:
                    readPerson();
                    break;
                case Kind.BLIND:
                    readBlind();
                    break;
                case Kind.LAW:
                    readLaw();
                    break;
                case Kind.SAYING:
                    readSaying();
                    break;
                default:
                    fail(OUT_OF_PLACE);
                    break;
            }
            expect(';');
        }

        private void readPerson() {
            if (!island.takesPeople()) {
                fail(OUT_OF_PLACE);
            }
            advance();
            if (kind != Kind.NAME) {
                fail(OUT_OF_PLACE);
            } else if (island.find(word) != NONE) {
                fail(TOLD_ALREADY);
            } else {
                int one = island.people;
                island.addPerson(word);
                advance();
                readTraits(one);
            }
        }

        private void readTraits(int one) {
            if (accept(Kind.MARKED)) {
                island.marked |= 1 << one;
            }
            if (accept(Kind.MIRROR)) {
                island.giveMirror(one);
            }
            if (accept(Kind.STAYS)) {
                island.stayers |= 1 << one;
            }
        }

        private void readBlind() {
            if (island.blinds >= Island.BLINDS) {
                fail(OUT_OF_PLACE);
            }
            advance();
            int one = readName();
            advance();
            int other = readName();
            if (fault == 0 && !island.canBlind(one, other)) {
                fail(TOLD_ALREADY);
            }
            if (fault == 0) {
                island.addBlind(one, other);
            }
            advance();
        }

        private void readLaw() {
            if (island.lawTold) {
                fail(OUT_OF_PLACE);
            }
            island.lawTold = true;
            advance();
            if (accept(Kind.OWN)) {
                island.ownLaw = true;
            } else {
                expect(Kind.HAS);
            }
        }

        private void readSaying() {
            if (island.sayings >= Island.SAYINGS) {
                fail(OUT_OF_PLACE);
            }
            advance();
            island.startSaying();
            readEither(0);
            island.endSaying();
        }

        /** A whole formula; within: how many units with ( ), and ones behind not, it stands in. */
        private void readEither(int within) {
            readBoth(within);
            for (int i = 0; i < Tape.LIMIT && accept(Kind.OR); i++) {
                readBoth(within);
                code.add(Kind.OR, 0);
            }
        }

        private void readBoth(int within) {
            readOne(within);
            for (int i = 0; i < Tape.LIMIT && accept(Kind.AND); i++) {
                readOne(within);
                code.add(Kind.AND, 0);
            }
        }

        private void readOne(int within) {
            if (kind == Kind.NOT) {
                if (within > WITHIN) {
                    fail(OUT_OF_PLACE);
                    return;
                }
                advance();
                readOne(within + 1);
                code.add(Kind.NOT, 0);
                return;
            }
            readSum(within);
            int relation = kind;
            if (relation == '<' || relation == '>' || relation == '=') {
                advance();
                readSum(within);
                code.add(relation, 0);
            }
        }

        private void readSum(int within) {
            readTerm(within);
            for (int i = 0; i < Tape.LIMIT && (kind == '+' || kind == '-'); i++) {
                int sign = kind;
                advance();
                readTerm(within);
                code.add(sign, 0);
            }
        }

        private void readTerm(int within) {
            readUnit(within);
            for (int i = 0; i < Tape.LIMIT && (kind == '*' || kind == '/'); i++) {
                int sign = kind;
                advance();
                readUnit(within);
                code.add(sign, 0);
            }
        }

        private void readUnit(int within) {
            int first = kind;
            boolean opens = Kind.opens(first);
            if (!Kind.startsUnit(first) || units >= unitLimit || opens && within > WITHIN) {
                fail(OUT_OF_PLACE);
                return;
            }
            units++;
            int of = first == Kind.NUMBER ? value : 0;
            advance();
            if (first == Kind.HAS || first == Kind.GONE || first == Kind.KNOWS) {
                of = Math.max(readName(), 0);
                advance();
            }
            if (opens) {
                if (first != '(') {
                    expect('(');
                }
                readEither(within + 1);
                expect(')');
            }
            if (first != '(') {
                code.add(first, of);
            }
        }

        /** The number of the one whose name stands here; NONE behind a fault. */
        private int readName() {
            if (kind != Kind.NAME) {
                fail(OUT_OF_PLACE);
                return NONE;
            }
            int one = island.find(word);
            if (one == NONE) {
                fail(NOBODY);
            }
            return one;
        }

        private boolean accept(int wanted) {
            boolean here = kind == wanted;
            if (here) {
                advance();
            }
            return here;
        }

        private void expect(int wanted) {
            if (!accept(wanted)) {
                fail(OUT_OF_PLACE);
            }
        }

        /** Only the first fault counts: reading goes by place, so no later one stands before it. */
        private void fail(int what) {
            if (fault == 0) {
                fault = kind == Kind.BAD ? NO_TOKEN : what;
                place = start;
                kind = Kind.STOP;
            }
        }

        private void advance() {
            if (fault != 0) {
                return;
            }
            while (at < tape.length && isBlank(tape.at(at))) {
                at++;
            }
            start = at;
            int first = tape.at(at);
            if (first == NONE) {
                kind = Kind.END;
            } else if (isLetter(first)) {
                takeWord();
            } else if (isDigit(first)) {
                takeNumber();
            } else {
                at++;
                kind = Kind.SIGNS.indexOf((char) first) >= 0 ? first : Kind.BAD;
            }
        }

        private void takeWord() {
            word = 0;
            while (at < tape.length && isLetter(tape.at(at))) {
                word = word << 8 | tape.at(at);
                at++;
            }
            kind = at - start > WORD_LENGTH ? Kind.BAD : kindOfWord();
        }

        private int kindOfWord() {
            for (int i = 0; i < Kind.WORDS; i++) {
                if (words[i] == word) {
                    return Kind.FIRST_WORD + i;
                }
            }
            return Kind.NAME;
        }

        private void takeNumber() {
            value = 0;
            while (at < tape.length && isDigit(tape.at(at))) {
                value = value * 10 + tape.at(at) - '0';
                at++;
            }
            boolean bad = at - start > NUMBER_LENGTH || isLetter(tape.at(at));
            kind = bad ? Kind.BAD : Kind.NUMBER;
        }

        private static boolean isBlank(int c) {
            return c == ' ' || c == 10;
        }

        private static boolean isLetter(int c) {
            return c >= 'a' && c <= 'z';
        }

        private static boolean isDigit(int c) {
            return c >= '0' && c <= '9';
        }
    }

    /** For each of the people, which worlds are alike to him: those of one group. */
    private static final class Views {
        private final int[][] groups = new int[Island.PEOPLE][Island.WORLDS];
        private final int[] firsts = new int[2 * Island.WORLDS];

        void open(Island island) {
            for (int one = 0; one < island.people; one++) {
                for (int world = 0; world < island.worldCount(); world++) {
                    groups[one][world] = world & island.views[one];
                }
            }
        }

        /** The group of each world to one; to one that can't be, the first one's. */
        int[] of(int one) {
            return groups[one >= 0 && one < Island.PEOPLE ? one : 0];
        }

        boolean areAlike(int one, int a, int b) {
            return of(one)[a] == of(one)[b];
        }

        /** Parts one's groups by whether the row is 0; a group is called by a world of its own. */
        void split(int one, int[] row, Scene scene) {
            int[] group = of(one);
            Arrays.fill(firsts, NONE);
            for (int i = 0; i < scene.count; i++) {
                int world = scene.list[i];
                int key = 2 * group[world] + (row[world] != 0 ? 1 : 0);
                if (firsts[key] == NONE) {
                    firsts[key] = world;
                }
                group[world] = firsts[key];
            }
        }

        void copy(Views other) {
            for (int one = 0; one < Island.PEOPLE; one++) {
                System.arraycopy(other.groups[one], 0, groups[one], 0, Island.WORLDS);
            }
        }
    }

    /** What is possible on an island, and who is gone. */
    private static final class Scene {
        final Views views;
        Island island;
        /** The possible worlds, the least first. */
        final int[] list = new int[Island.WORLDS];
        int count = 0;
        int gone = 0;
        int nights = 0;
        int whispers = 0;

        Scene(Island on, Views seen) {
            island = on;
            views = seen;
        }

        void open(Island on) {
            island = on;
            count = on.worldCount();
            for (int world = 0; world < count; world++) {
                list[world] = world;
            }
            gone = 0;
            nights = 0;
            whispers = 0;
            views.open(on);
        }

        void copy(Scene other) {
            follow(other);
            nights = other.nights;
            whispers = other.whispers;
            views.copy(other.views);
        }

        /** Goes on from another that has the same views. */
        void follow(Scene other) {
            island = other.island;
            System.arraycopy(other.list, 0, list, 0, other.count);
            count = other.count;
            gone = other.gone;
        }

        boolean contains(int world) {
            for (int i = 0; i < count; i++) {
                if (list[i] == world) {
                    return true;
                }
            }
            return false;
        }

        int countSo(int[] row) {
            int so = 0;
            for (int i = 0; i < count; i++) {
                so += row[list[i]] != 0 ? 1 : 0;
            }
            return so;
        }

        /** All hear what the row tells: how many worlds are struck; NONE if it is not so. */
        int hear(int[] row) {
            return row[island.marked] != 0 ? keepSo(row) : NONE;
        }

        int keepSo(int[] row) {
            int kept = 0;
            for (int i = 0; i < count; i++) {
                if (row[list[i]] != 0) {
                    list[kept] = list[i];
                    kept++;
                }
            }
            int struck = count - kept;
            count = kept;
            return struck;
        }

        void keepEqual(int[] row, int value) {
            int kept = 0;
            for (int i = 0; i < count; i++) {
                if (row[list[i]] == value) {
                    list[kept] = list[i];
                    kept++;
                }
            }
            count = kept;
        }

        void note(long[] notes, int set) {
            for (int i = 0; i < count; i++) {
                notes[list[i]] |= 1L << set;
            }
        }

        void keepNoted(long[] notes, int set) {
            int kept = 0;
            for (int i = 0; i < count; i++) {
                if ((notes[list[i]] >> set & 1) == 1) {
                    list[kept] = list[i];
                    kept++;
                }
            }
            count = kept;
        }
    }

    /** Weighs formulas in all possible worlds at once, a row of values each, and who would go. */
    private static final class Mind {
        /** Above 5 rows that wait in each of 8 formulas within one another, and the last. */
        private static final int ROWS = 44;
        private final int[][] rows = new int[ROWS][Island.WORLDS];
        private final int[] spare = new int[Island.WORLDS];
        private final int[] known = new int[Island.WORLDS];
        private final int[] roots = new int[Island.WORLDS];
        private final int[] goers = new int[Island.WORLDS];
        private int top = 0;

        /** The values of the formula that was weighed last, by world. */
        int[] result() {
            return rows[0];
        }

        void weigh(Scene scene, Code code, int from, int to) {
            top = 0;
            for (int i = from; i < to; i++) {
                step(scene, code.kindAt(i), code.ofAt(i));
            }
        }

        private void step(Scene scene, int kind, int of) {
            switch (kind) {
                case Kind.NUMBER:
                case Kind.MARKS:
                case Kind.HAS:
                case Kind.GONE:
                    pushLeaf(scene, kind, of);
                    break;
                case Kind.NOT:
                case Kind.KNOWS:
                case Kind.ALL:
                case Kind.COMMON:
                    if (top >= 1) {
                        turn(scene, kind, of, rows[top - 1]);
                    }
                    break;
                default:
                    if (top >= 2) {
                        top--;
                        join(scene, kind, rows[top - 1], rows[top]);
                    }
                    break;
            }
        }

        private void pushLeaf(Scene scene, int kind, int of) {
            if (top >= ROWS) {
                return;
            }
            int[] row = rows[top];
            top++;
            for (int i = 0; i < scene.count; i++) {
                int world = scene.list[i];
                row[world] = leaf(kind, of, world, scene.gone);
            }
        }

        private static int leaf(int kind, int of, int world, int gone) {
            switch (kind) {
                case Kind.NUMBER:
                    return of;
                case Kind.MARKS:
                    return Integer.bitCount(world);
                case Kind.HAS:
                    return world >> of & 1;
                default:
                    return gone >> of & 1;
            }
        }

        private void turn(Scene scene, int kind, int of, int[] row) {
            switch (kind) {
                case Kind.NOT:
                    for (int i = 0; i < scene.count; i++) {
                        int world = scene.list[i];
                        row[world] = row[world] == 0 ? 1 : 0;
                    }
                    break;
                case Kind.KNOWS:
                    knowsOne(scene, of, row);
                    break;
                case Kind.ALL:
                    knowAll(scene, row);
                    break;
                default:
                    knowInCommon(scene, row);
                    break;
            }
        }

        private static void join(Scene scene, int kind, int[] left, int[] right) {
            for (int i = 0; i < scene.count; i++) {
                int world = scene.list[i];
                left[world] = joined(kind, left[world], right[world]);
            }
        }

        private static int joined(int kind, int a, int b) {
            switch (kind) {
                case '+':
                    return a + b;
                case '-':
                    return a - b;
                case '*':
                    return a * b;
                case '/':
                    return b == 0 ? 0 : a / b;
                case '<':
                    return a < b ? 1 : 0;
                case '>':
                    return a > b ? 1 : 0;
                case '=':
                    return a == b ? 1 : 0;
                case Kind.AND:
                    return a != 0 && b != 0 ? 1 : 0;
                default:
                    return a != 0 || b != 0 ? 1 : 0;
            }
        }

        /** In the row known: 1 for each of one's groups in all worlds of which the row is not 0. */
        private void markKnown(Scene scene, int[] group, int[] row) {
            for (int i = 0; i < scene.count; i++) {
                known[group[scene.list[i]]] = 1;
            }
            for (int i = 0; i < scene.count; i++) {
                int world = scene.list[i];
                if (row[world] == 0) {
                    known[group[world]] = 0;
                }
            }
        }

        private void knowsOne(Scene scene, int one, int[] row) {
            int[] group = scene.views.of(one);
            markKnown(scene, group, row);
            for (int i = 0; i < scene.count; i++) {
                int world = scene.list[i];
                row[world] = known[group[world]];
            }
        }

        private void knowAll(Scene scene, int[] row) {
            Arrays.fill(spare, 1);
            for (int one = 0; one < scene.island.people; one++) {
                int[] group = scene.views.of(one);
                markKnown(scene, group, row);
                for (int i = 0; i < scene.count; i++) {
                    int world = scene.list[i];
                    spare[world] &= known[group[world]];
                }
            }
            System.arraycopy(spare, 0, row, 0, Island.WORLDS);
        }

        /**
         * Known in common is what is so in all worlds that hang together by any chain of groups:
         * all know, all know that all know and so on never leads out of them.
         */
        private void knowInCommon(Scene scene, int[] row) {
            linkGroups(scene);
            Arrays.fill(spare, 1);
            for (int i = 0; i < scene.count; i++) {
                int world = scene.list[i];
                if (row[world] == 0) {
                    spare[rootOf(world)] = 0;
                }
            }
            for (int i = 0; i < scene.count; i++) {
                int world = scene.list[i];
                row[world] = spare[rootOf(world)];
            }
        }

        private void linkGroups(Scene scene) {
            for (int world = 0; world < Island.WORLDS; world++) {
                roots[world] = world;
            }
            for (int one = 0; one < scene.island.people; one++) {
                int[] group = scene.views.of(one);
                Arrays.fill(known, NONE);
                for (int i = 0; i < scene.count; i++) {
                    int world = scene.list[i];
                    int first = known[group[world]];
                    if (first == NONE) {
                        known[group[world]] = world;
                    } else {
                        link(first, world);
                    }
                }
            }
        }

        private void link(int a, int b) {
            int rootA = rootOf(a);
            int rootB = rootOf(b);
            roots[Math.max(rootA, rootB)] = Math.min(rootA, rootB);
        }

        private int rootOf(int world) {
            int at = world;
            // A world that is no root hangs on a lesser one, so the way up has an end.
            for (int i = 0; i < Island.WORLDS && roots[at] != at; i++) {
                roots[at] = roots[roots[at]];
                at = roots[at];
            }
            return at;
        }

        /** DEEP of the formula that was weighed last. */
        int depth(Scene scene) {
            int world = scene.island.marked;
            int[] row = rows[0];
            int[] common = rows[1];
            if (row[world] == 0) {
                return NONE;
            }
            System.arraycopy(row, 0, common, 0, Island.WORLDS);
            knowInCommon(scene, common);
            if (common[world] != 0) {
                return IN_COMMON;
            }
            for (int deep = 0; deep < DEEPEST; deep++) {
                knowAll(scene, row);
                if (row[world] == 0) {
                    return deep;
                }
            }
            return DEEPEST;
        }

        /** What one knows in the true world of his own mark. */
        int ownMark(Scene scene, int one) {
            int[] group = scene.views.of(one);
            markOwn(scene, one, group);
            switch (known[group[scene.island.marked]]) {
                case 1:
                    return 1;
                case 2:
                    return 0;
                default:
                    return UNKNOWN;
            }
        }

        /** In the row known, for each of one's groups: 1 if he has a mark in some, 2 if none. */
        private void markOwn(Scene scene, int one, int[] group) {
            for (int i = 0; i < scene.count; i++) {
                known[group[scene.list[i]]] = 0;
            }
            for (int i = 0; i < scene.count; i++) {
                int world = scene.list[i];
                known[group[world]] |= (world >> one & 1) == 1 ? 1 : 2;
            }
        }

        /** Who would go in each possible world, as bits by world. */
        int[] findGoers(Scene scene) {
            Arrays.fill(goers, 0);
            int fixed = scene.gone | scene.island.stayers;
            for (int one = 0; one < scene.island.people; one++) {
                if ((fixed >> one & 1) == 1) {
                    continue;
                }
                int[] group = scene.views.of(one);
                markOwn(scene, one, group);
                for (int i = 0; i < scene.count; i++) {
                    int world = scene.list[i];
                    int seen = known[group[world]];
                    if (seen == 1 || seen == 2 && scene.island.ownLaw) {
                        goers[world] |= 1 << one;
                    }
                }
            }
            return goers;
        }

        /** A night comes, and all see by morning who went: those, as bits. */
        int pass(Scene scene) {
            findGoers(scene);
            int went = goers[scene.island.marked];
            scene.keepEqual(goers, went);
            scene.gone |= went;
            scene.nights++;
            return went;
        }
    }

    /** What was told of who went when, and the time. */
    private static final class Sights {
        static final int NIGHTS = 12;
        private static final int LIMIT = 20;
        private static final int MOST_BY = 1000;
        private static final int LAST_TIME = 100000;
        private final int[] ones = new int[LIMIT];
        private final int[] nights = new int[LIMIT];
        private final boolean[] wents = new boolean[LIMIT];
        private final int[] toldAt = new int[LIMIT];
        private final int[] untoldAt = new int[LIMIT];
        int count = 0;
        int time = 0;

        int tell(int one, int night, boolean went) {
            if (night < 1 || night > NIGHTS || count >= LIMIT) {
                return NONE;
            }
            ones[count] = one;
            nights[count] = night;
            wents[count] = went;
            toldAt[count] = time;
            untoldAt[count] = NONE;
            count++;
            return count - 1;
        }

        boolean takeBack(int i) {
            if (i < 0 || i >= count || untoldAt[i] != NONE) {
                return false;
            }
            untoldAt[i] = time;
            return true;
        }

        int goOn(int by) {
            if (by < 0 || by > MOST_BY || time + by > LAST_TIME) {
                return NONE;
            }
            time += by;
            return time;
        }

        private boolean counts(int i, int k) {
            return toldAt[i] <= k && (untoldAt[i] == NONE || untoldAt[i] > k);
        }

        /** Whether all that counts at k is so, if people went on these nights (see Guesses). */
        boolean agree(int wentOn, int k) {
            for (int i = 0; i < count; i++) {
                boolean went = Guesses.nightOf(wentOn, ones[i]) == nights[i];
                if (counts(i, k) && went != wents[i]) {
                    return false;
                }
            }
            return true;
        }
    }

    /** Each world and saying that may have been at first, with who goes when by it. */
    private static final class Guesses {
        static final int PEOPLE = 6;
        private static final int WORLDS = 64;
        private static final int NIGHT_BITS = 4;
        /** By saying (the last: nothing) and world: four bits for each one's night; NONE: not so. */
        private final int[][] wentOn = new int[Island.SAYINGS + 1][WORLDS];
        private final Scene first;
        private final int[] gone = new int[Island.WORLDS];
        private final int[] wentRow = new int[Island.WORLDS];
        boolean fresh = false;
        /** Of the worlds that fit: who has a mark in some, and who has none in some. */
        int with = 0;
        int without = 0;

        Guesses(Island island) {
            first = new Scene(island, new Views());
        }

        static int nightOf(int nights, int one) {
            return nights >> NIGHT_BITS * one & (1 << NIGHT_BITS) - 1;
        }

        void learn(Island island, Mind mind) {
            for (int saying = 0; saying <= island.sayings; saying++) {
                learnFrom(island, saying, mind);
            }
            fresh = true;
        }

        /**
         * No world is struck here by who went: all that can't be told apart by it part their
         * groups instead, so that the nights of all true worlds pass at once.
         */
        private void learnFrom(Island island, int saying, Mind mind) {
            int[] nights = wentOn[saying];
            Arrays.fill(nights, NONE);
            Arrays.fill(gone, 0);
            first.open(island);
            if (saying < island.sayings) {
                mind.weigh(first, island.code, island.starts[saying], island.starts[saying + 1]);
                first.keepSo(mind.result());
            }
            for (int i = 0; i < first.count; i++) {
                nights[first.list[i]] = 0;
            }
            for (int night = 1; night <= Sights.NIGHTS; night++) {
                int[] goers = mind.findGoers(first);
                for (int one = 0; one < island.people; one++) {
                    sendOne(one, goers, nights, night);
                }
            }
        }

        private void sendOne(int one, int[] goers, int[] nights, int night) {
            int some = 0;
            for (int i = 0; i < first.count; i++) {
                int world = first.list[i];
                wentRow[world] = (goers[world] & ~gone[world]) >> one & 1;
                some |= wentRow[world];
                gone[world] |= wentRow[world] << one;
                nights[world] |= wentRow[world] * night << NIGHT_BITS * one;
            }
            for (int other = 0; some == 1 && other < first.island.people; other++) {
                first.views.split(other, wentRow, first);
            }
        }

        /** How many fit as known at k; with and without tell their marks. */
        int scan(Island island, Sights sights, int k) {
            int fitting = 0;
            with = 0;
            without = 0;
            for (int saying = 0; saying <= island.sayings; saying++) {
                for (int world = 0; world < island.worldCount() && world < WORLDS; world++) {
                    int nights = wentOn[saying][world];
                    if (nights != NONE && sights.agree(nights, k)) {
                        fitting++;
                        with |= world;
                        without |= ~world;
                    }
                }
            }
            return fitting;
        }
    }
}
