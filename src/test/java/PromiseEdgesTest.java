/** Promises 1 to 16, a test for each sentence that names a boundary case. */
public final class PromiseEdgesTest {
    private static final int[] FAR = {Integer.MIN_VALUE, Integer.MIN_VALUE + 1, -257, -256, -33, -32, -9, -8, -3, -2,
        -1, 256, 257, 512, 1024, 65536, 1 << 30, Integer.MAX_VALUE - 1, Integer.MAX_VALUE};
    private static final int BLANKS = 0x20202020;

    public static void main(String[] args) throws ReflectiveOperationException {
        Sentences.run(PromiseEdgesTest.class);
    }

    private static int feedBlanks(NinetyNights x) {
        return x.feed(BLANKS, BLANKS, BLANKS, BLANKS, BLANKS);
    }

    private static NinetyNights full() {
        NinetyNights x = new NinetyNights();
        for (int i = 0; i < 80; i++) {
            feedBlanks(x);
        }
        return x;
    }

    // ---- 1

    static void promise01AnEmptyIsland(Checks c) {
        NinetyNights x = new NinetyNights();
        for (int what = 0; what <= 8; what++) {
            c.due("about " + what, x.about(what), 0);
        }
        c.due("worlds", x.worlds(), 1);
        c.due("possible(0)", x.possible(0), 1);
        c.due("possible(1)", x.possible(1), -1);
        c.due("gone", x.gone(), 0);
        c.due("sees", x.sees(0), -1);
        c.due("like", x.like(0, 0, 0), -1);
        c.due("own", x.own(0), -1);
        c.due("saying", x.saying(0), -1);
        c.due("when", x.when(0), -1);
        c.due("fewest", x.fewest(0, 1), 0);
        c.due("fewest of one", x.fewest(1, 1), -1);
        c.due("sight", x.sight(0, 1, true), -1);
        c.due("untell", x.untell(0) ? 1 : 0, 0);
        c.due("fits", x.fits(0), 1);
        c.due("sure", x.sure(0, 0), -1);
        for (int box = 0; box < 3; box++) {
            c.due("back", x.back(box), -1);
        }
        c.due("night", x.night(), 0);
    }

    static void promise01NoObjectKnowsOfAnother(Checks c) {
        NinetyNights x = Checks.on("one a marked mirror;one b;");
        NinetyNights y = new NinetyNights();
        Checks.feed(x, "has a");
        x.night();
        x.later(3);
        c.due("the other's tape", y.about(7), 0);
        c.due("the other's people", y.about(0), 0);
        c.due("the other's night", y.about(3), 0);
        c.due("the other's time", y.about(6), 0);
        c.due("its own tape", x.ask(), 1);
    }

    // ---- 2

    static void promise02TwentyBytesComeHighestFirst(Checks c) {
        NinetyNights x = new NinetyNights();
        c.due("how many there are", x.feed(0x31323334, 0x2b313030, 0x302b3120, 0x20202020, 0x20202b37), 20);
        c.due("1234+1000+1 and +7", x.ask(), 1234 + 1000 + 1 + 7);
    }

    static void promise02BytesComeBehindThoseOnTheTape(Checks c) {
        NinetyNights x = new NinetyNights();
        c.due("at first", x.feed(0x31202020, BLANKS, BLANKS, BLANKS, 0x2020202b), 20);
        c.due("behind them", x.feed(0x32202020, BLANKS, BLANKS, BLANKS, 0x2020202b), 40);
        c.due("behind them", x.feed(0x33202020, BLANKS, BLANKS, BLANKS, BLANKS), 60);
        c.due("all together", x.ask(), 6);
    }

    static void promise02AnyByteComes(Checks c) {
        NinetyNights x = new NinetyNights();
        c.due("below 0", x.feed(-1, Integer.MIN_VALUE, -2, Integer.MAX_VALUE, 0), 20);
        c.due("no token", x.ask(), NinetyNights.GAP);
        c.dueFault(x, "byte 255", 1, 0);
        x.feed(0x31202080, 0x80808080, BLANKS, BLANKS, BLANKS);
        x.ask();
        c.dueFault(x, "byte 128", 1, 3);
        x.feed(0x312020a0, BLANKS, BLANKS, BLANKS, BLANKS);
        x.ask();
        c.dueFault(x, "byte 160", 1, 3);
    }

    static void promise02NoneComesAbove1600(Checks c) {
        NinetyNights x = new NinetyNights();
        for (int i = 1; i <= 80; i++) {
            c.due("feed " + i, feedBlanks(x), 20 * i);
        }
        c.due("one more", x.feed(0x31313131, 0x31313131, 0x31313131, 0x31313131, 0x31313131), -1);
        c.due("nothing came", x.about(7), 1600);
        for (int n = 1599; n > 1580; n--) {
            x.end(n);
            c.due("behind " + n, x.feed(0x31313131, 0x31313131, 0x31313131, 0x31313131, 0x31313131), -1);
            c.due("nothing came", x.about(7), n);
        }
        x.end(1580);
        c.due("just 1,600", x.feed(0x31202020, BLANKS, BLANKS, BLANKS, BLANKS), 1600);
        c.due("none of those that did not come is there", x.ask(), 1);
        c.due("the tape is empty, so they come", feedBlanks(x), 20);
    }

    // ---- 3

    static void promise03TheFirstBytesAreLeft(Checks c) {
        NinetyNights x = new NinetyNights();
        x.feed(0x31323334, 0x35363738, BLANKS, BLANKS, BLANKS);
        c.due("three", x.end(3), 3);
        c.due("how many there are", x.about(7), 3);
        c.due("123", x.ask(), 123);
        x.feed(0x31323334, BLANKS, BLANKS, BLANKS, BLANKS);
        c.due("as many as there are", x.end(20), 20);
        c.due("1234", x.ask(), 1234);
    }

    static void promise03MoreThanThereAre(Checks c) {
        NinetyNights x = new NinetyNights();
        c.due("of none", x.end(1), -1);
        feedBlanks(x);
        c.due("one more", x.end(21), -1);
        c.due("far more", x.end(1600), -1);
        c.due("far more", x.end(Integer.MAX_VALUE), -1);
        c.due("nothing was done", x.about(7), 20);
        c.due("fewer", x.end(5), 5);
        c.due("what is cut does not come back", x.end(6), -1);
        x = full();
        c.due("1,601", x.end(1601), -1);
        c.due("1,600", x.end(1600), 1600);
    }

    static void promise03BelowZero(Checks c) {
        NinetyNights x = new NinetyNights();
        c.due("of none", x.end(-1), -1);
        feedBlanks(x);
        c.due("-1", x.end(-1), -1);
        c.due("the least", x.end(Integer.MIN_VALUE), -1);
        c.due("nothing was done", x.about(7), 20);
    }

    static void promise03NoBytesAtAll(Checks c) {
        NinetyNights x = new NinetyNights();
        c.due("of none", x.end(0), 0);
        feedBlanks(x);
        c.due("of twenty", x.end(0), 0);
        c.due("how many there are", x.about(7), 0);
        c.due("behind it from the start", feedBlanks(x), 20);
    }

    static void promise03WhatComesStandsBehindTheCut(Checks c) {
        NinetyNights x = new NinetyNights();
        x.feed(0x31323334, 0x35363738, BLANKS, BLANKS, BLANKS);
        x.end(2);
        c.due("behind two", x.feed(0x2b352020, BLANKS, BLANKS, BLANKS, BLANKS), 22);
        c.due("12+5", x.ask(), 17);
    }

    // ---- 4

    /** An island on which all has happened that island() ends. */
    private static NinetyNights lived() {
        NinetyNights x = Checks.on("one a marked mirror;one b marked;one d;saying has a;saying has b;law has;");
        x.image(0);
        x.image(1);
        x.image(2);
        x.saying(1);
        x.night();
        Checks.whisper(x, "has d", 7);
        x.later(9);
        x.sight(0, 1, true);
        return x;
    }

    static void promise04HowManyPeople(Checks c) {
        for (int people = 0; people <= 8; people++) {
            c.due(people + " people", Checks.island(new NinetyNights(), Islands.EIGHT.substring(0, 6 * people)), people);
        }
    }

    static void promise04TheTapeIsEmptyThen(Checks c) {
        NinetyNights x = new NinetyNights();
        Checks.island(x, "one a;");
        c.due("behind a good text", x.about(7), 0);
        Checks.island(x, "one a;one a;");
        c.due("behind a FAULT", x.about(7), 0);
        c.due("so this is the empty text", x.island(), 0);
        c.due("people", x.about(0), 0);
    }

    static void promise04AllIsNewThen(Checks c) {
        NinetyNights x = lived();
        c.due("another", Checks.island(x, "one y;one z marked;"), 2);
        c.due("nobody gone", x.gone(), 0);
        c.due("nobody gone, by a formula", Checks.ask(x, "gone y + gone z"), 0);
        c.due("nothing said", x.worlds(), 4);
        c.due("NIGHTS", x.about(3), 0);
        c.due("WHISPERS", x.about(4), 0);
        c.due("SAYINGS", x.about(1), 0);
        c.due("the TRUE WORLD", x.about(2), 2);
        c.due("units", x.about(8), 0);
        c.due("no mirror", x.sees(0), 2);
        c.due("nothing whispered", x.like(0, 0, 1), 1);
        c.due("old NAMES are nobody's", Checks.ask(x, "has a"), NinetyNights.GAP);
    }

    static void promise04SightsAreNone(Checks c) {
        NinetyNights x = lived();
        Checks.island(x, "one a;one b;one d;saying has a;");
        c.due("SIGHTS", x.about(5), 0);
        c.due("none to untell", x.untell(0) ? 1 : 0, 0);
        c.due("none counts", x.fits(9), 12);
        Checks.island(x, "one a;one b;saying has a;saying 0;");
        c.due("what FITS is of the new ISLAND", x.fits(9), 6);
        x.sight(1, 1, true);
        Checks.island(x, "one a;one b;one d;saying has a;");
        c.due("none counts again", x.fits(9), 12);
        c.due("numbered from 0", x.sight(0, 1, true), 0);
        c.due("that one counts", x.fits(9), 4);
    }

    static void promise04BoxesAreEmpty(Checks c) {
        NinetyNights x = lived();
        Checks.island(x, "one a;");
        for (int box = 0; box < 3; box++) {
            c.due("box " + box, x.back(box), -1);
        }
    }

    static void promise04TheTimeStays(Checks c) {
        NinetyNights x = lived();
        Checks.island(x, "one a;");
        c.due("TIME", x.about(6), 9);
        x.sight(0, 1, true);
        c.due("told at that TIME", x.fits(8), 2);
        c.due("told at that TIME", x.fits(9), 0);
    }

    static void promise04ByAFaultAllStays(Checks c) {
        for (String text : new String[] {"one q;one q;", "one q marked mirror;law own;saying has r;", "$", "one"}) {
            NinetyNights x = lived();
            c.due(text, Checks.island(x, text), -1);
            int[] due = {3, 2, 3, 1, 1, 1, 9, 0, 2};
            for (int what = 0; what < due.length; what++) {
                c.due(text + ": about " + what, x.about(what), due[what]);
            }
            c.due(text + ": gone", x.gone(), 3);
            c.due(text + ": worlds", x.worlds(), 2);
            c.due(text + ": sees", x.sees(0), 7);
            c.due(text + ": what was whispered", x.like(2, 3, 7), 0);
            c.due(text + ": NAMES", Checks.ask(x, "has a + gone b"), 2);
            c.due(text + ": fits", x.fits(9), 10);
            c.due(text + ": saying", x.saying(0), 0);
            for (int box = 0; box < 3; box++) {
                c.due(text + ": box " + box, x.back(box), 0);
            }
            c.due(text + ": the law, and who has a mirror", x.night(), 1);
        }
    }

    static void promise04NothingOfAnEarlierTextIsLeft(Checks c) {
        String full = "one a marked mirror stays;one b marked;one d stays;blind a b;blind b a;law own;saying has a;"
                + "saying 0;saying marks = 7;";
        String plain = "one a;one b mirror;one d;";
        for (int faulty = 0; faulty < 2; faulty++) {
            NinetyNights x = new NinetyNights();
            c.due("full", Checks.island(x, full + (faulty == 1 ? "saying" : "")), faulty == 1 ? -1 : 3);
            if (faulty == 0) {
                c.due("between", Checks.island(x, "one a;"), 1);
            }
            c.due("plain", Checks.island(x, plain + "saying has a + 1;law has;"), 3);
            c.due("marks", x.about(2), 0);
            c.due("SAYINGS", x.about(1), 1);
            c.due("units", x.about(8), 2);
            c.due("a sees", x.sees(0), 0b110);
            c.due("b sees", x.sees(1), 0b111);
            c.due("the SAYING is the new one", x.saying(0), 0);
            c.due("the law is has", x.night(), 0);
            Checks.say(x, "not has a");
            c.due("plain again", Checks.island(x, plain + "law own;"), 3);
            c.due("the law is own", x.night(), 0b010);
            c.due("another", Checks.island(x, "one d marked mirror;one a mirror;one b marked mirror;"), 3);
            c.due("nobody stays, and the law is has", x.night(), 0b101);
        }
    }

    static void promise04TheSameTextAgainIsNew(Checks c) {
        NinetyNights x = Checks.on("one a marked mirror;one b;");
        x.night();
        c.due("again", Checks.island(x, "one a marked mirror;one b;"), 2);
        c.due("nobody gone", x.gone(), 0);
        c.due("all possible", x.worlds(), 4);
        c.due("he goes again", x.night(), 1);
    }

    // ---- 5

    static void promise05AtFirstThereIsNone(Checks c) {
        NinetyNights x = new NinetyNights();
        c.due("its FAULT", x.fault(0), 0);
        c.due("its place", x.fault(1), -1);
    }

    static void promise05OfTheLatestActThatRead(Checks c) {
        NinetyNights x = Checks.on("one a;");
        Checks.island(x, "one a;one a;");
        c.dueFault(x, "island", 3, 10);
        Checks.ask(x, "1+");
        c.dueFault(x, "ask", 2, 2);
        Checks.holds(x, "has b");
        c.dueFault(x, "holds", 4, 4);
        Checks.deep(x, "1 $");
        c.dueFault(x, "deep", 1, 2);
        Checks.say(x, ")");
        c.dueFault(x, "say", 2, 0);
        Checks.whisper(x, "has a b", 1);
        c.dueFault(x, "whisper", 2, 6);
    }

    static void promise05AGoodTextHasNone(Checks c) {
        NinetyNights x = Checks.on("one a;");
        for (int act = 0; act < 6; act++) {
            Checks.ask(x, "$");
            c.dueFault(x, "$", 1, 0);
            Checks.feed(x, act == 5 ? "one a;" : "1");
            switch (act) {
                case 0 -> x.ask();
                case 1 -> x.holds();
                case 2 -> x.deep();
                case 3 -> x.say();
                case 4 -> x.whisper(1);
                default -> x.island();
            }
            c.dueFault(x, "act " + act, 0, -1);
        }
    }

    static void promise05WhatIsNotSoIsNoFault(Checks c) {
        NinetyNights x = Checks.on("one a;");
        Checks.ask(x, "$");
        c.due("not so", Checks.say(x, "has a"), -1);
        c.dueFault(x, "has a", 0, -1);
    }

    static void promise05OtherActsLeaveIt(Checks c) {
        NinetyNights x = Checks.on("one a;saying 1;saying 0;");
        Checks.ask(x, "1 1");
        x.feed(1, 2, 3, 4, 5);
        x.end(0);
        x.saying(0);
        x.saying(1);
        x.saying(2);
        x.night();
        x.when(0);
        x.fewest(1, 1);
        x.sight(0, 1, true);
        x.untell(0);
        x.later(1);
        x.fits(0);
        x.sure(0, 0);
        x.image(0);
        x.back(0);
        c.dueFault(x, "1 1", 2, 2);
    }

    static void promise05NoneForAnotherWhat(Checks c) {
        NinetyNights x = new NinetyNights();
        Checks.ask(x, "1 1");
        c.due("2", x.fault(2), -1);
        c.due("3", x.fault(3), -1);
        for (int what : FAR) {
            c.due("" + what, x.fault(what), -1);
        }
    }

    // ---- 6

    static void promise06WhomOneSees(Checks c) {
        NinetyNights x = Checks.on("one a;one b mirror;one d;blind b a;");
        c.due("a", x.sees(0), 0b110);
        c.due("b", x.sees(1), 0b110);
        c.due("d", x.sees(2), 0b011);
        x = Checks.on("one a;");
        c.due("nobody", x.sees(0), 0);
        x = Checks.on(Islands.EIGHT);
        c.due("seven", x.sees(7), 127);
    }

    static void promise06NoneSuch(Checks c) {
        NinetyNights x = Checks.on("one a;one b;one d;");
        for (int one = 3; one < 70; one++) {
            c.due("" + one, x.sees(one), -1);
        }
        for (int one : FAR) {
            c.due("" + one, x.sees(one), -1);
            c.due("of eight " + one, Checks.on(Islands.EIGHT).sees(one), -1);
        }
        c.due("of eight 8", Checks.on(Islands.EIGHT).sees(8), -1);
    }

    static void promise06TheGoneSeeAsBefore(Checks c) {
        NinetyNights x = Checks.on("one a marked mirror;one b;");
        x.night();
        c.due("who is gone", x.sees(0), 3);
        c.due("who is left", x.sees(1), 1);
    }

    // ---- 7

    static void promise07HowManyArePossible(Checks c) {
        c.due("without PEOPLE", new NinetyNights().worlds(), 1);
        NinetyNights x = Checks.on(Islands.EIGHT);
        c.due("of eight", x.worlds(), 256);
        Checks.say(x, "marks < 2");
        c.due("left", x.worlds(), 9);
        Checks.whisper(x, "has a", 255);
        c.due("a whisper strikes none", x.worlds(), 9);
        Checks.say(x, "marks = 0");
        c.due("the TRUE one is always left", x.worlds(), 1);
        x.night();
        c.due("the TRUE one is always left", x.worlds(), 1);
    }

    // ---- 8

    static void promise08PossibleOrNot(Checks c) {
        NinetyNights x = Checks.on(Islands.EIGHT);
        Checks.say(x, "marks < 8 and (not has h or has a)");
        c.due("0", x.possible(0), 1);
        c.due("128", x.possible(128), 0);
        c.due("129", x.possible(129), 1);
        c.due("254", x.possible(254), 0);
        c.due("255", x.possible(255), 0);
    }

    static void promise08NoneSuch(Checks c) {
        NinetyNights x = Checks.on("one a;one b;one d;");
        c.due("the last", x.possible(7), 1);
        c.due("8", x.possible(8), -1);
        c.due("255", x.possible(255), -1);
        for (int world : FAR) {
            c.due("" + world, x.possible(world), -1);
            c.due("of eight " + world, Checks.on(Islands.EIGHT).possible(world), -1);
        }
    }

    // ---- 9

    static void promise09LikeOrNot(Checks c) {
        NinetyNights x = Checks.on("one a;one b;one d;");
        for (int one = 0; one < 3; one++) {
            for (int a = 0; a < 8; a++) {
                for (int b = 0; b < 8; b++) {
                    int apart = a ^ b;
                    c.due(one + ": " + a + ", " + b, x.like(one, a, b), apart == 0 || apart == 1 << one ? 1 : 0);
                }
            }
        }
    }

    static void promise09NoneIfOneCantBe(Checks c) {
        NinetyNights x = Checks.on("one a;one b;one d;");
        c.due("one", x.like(3, 0, 0), -1);
        c.due("a", x.like(0, 8, 0), -1);
        c.due("b", x.like(0, 0, 8), -1);
        c.due("the same that is none", x.like(0, 8, 8), -1);
        for (int far : FAR) {
            c.due("one " + far, x.like(far, 0, 0), -1);
            c.due("a " + far, x.like(0, far, 0), -1);
            c.due("b " + far, x.like(0, 0, far), -1);
        }
    }

    static void promise09TwoPossibleWorlds(Checks c) {
        NinetyNights x = Checks.on("one a;one b;");
        Checks.say(x, "not has b");
        c.due("both are", x.like(0, 0, 1), 1);
        c.due("b is struck", x.like(0, 0, 2), -1);
        c.due("a is struck", x.like(0, 2, 0), -1);
        c.due("both are struck", x.like(0, 2, 3), -1);
        c.due("alike as they were", x.like(1, 0, 2), -1);
    }

    // ---- 10

    static void promise10WhatOneKnowsOfHisOwnMark(Checks c) {
        NinetyNights x = Checks.on("one a marked mirror;one b mirror;one d marked;one e;");
        c.due("that he has one", x.own(0), 1);
        c.due("that he has none", x.own(1), 0);
        c.due("nothing", x.own(2), -2);
        c.due("nothing", x.own(3), -2);
        Checks.say(x, "has d");
        c.due("that he has one", x.own(2), 1);
        Checks.say(x, "not has e");
        c.due("that he has none", x.own(3), 0);
        x.night();
        c.due("who is gone knows still", x.own(0), 1);
    }

    static void promise10NoneSuch(Checks c) {
        NinetyNights x = Checks.on("one a mirror;one b mirror;one d mirror;");
        for (int one = 3; one < 70; one++) {
            c.due("" + one, x.own(one), -1);
        }
        for (int one : FAR) {
            c.due("" + one, x.own(one), -1);
        }
        c.due("of eight 8", Checks.on(Islands.EIGHT).own(8), -1);
    }

    // ---- 11

    static void promise11InTheTrueWorld(Checks c) {
        NinetyNights x = Checks.on("one a marked;one b;one d marked;");
        c.due("the value", Checks.ask(x, "marks * 1000 + has a * 100 + has b * 10 + has d"), 2101);
        c.due("-1 is no NONE", Checks.ask(x, "0 - 1"), -1);
        c.due("nothing is struck by it", x.worlds(), 8);
    }

    static void promise11TheTapeIsEmptyThen(Checks c) {
        NinetyNights x = new NinetyNights();
        Checks.ask(x, "1");
        c.due("behind a good text", x.about(7), 0);
        Checks.ask(x, "$");
        c.due("behind a FAULT", x.about(7), 0);
        c.due("an empty tape is no formula", x.ask(), NinetyNights.GAP);
        c.dueFault(x, "the empty text", 2, 0);
    }

    static void promise11GapIsAFaultOrTheValue(Checks c) {
        NinetyNights x = new NinetyNights();
        c.due("a FAULT", Checks.ask(x, "1000 1000"), NinetyNights.GAP);
        c.dueFault(x, "1000 1000", 2, 5);
        c.due("the value", Checks.ask(x, "0 - 1000 * 1000"), NinetyNights.GAP);
        c.dueFault(x, "0 - 1000 * 1000", 0, -1);
    }

    // ---- 12

    static void promise12InHowManyPossibleWorlds(Checks c) {
        NinetyNights x = Checks.on("one a marked;one b;one d;");
        c.due("in none", Checks.holds(x, "0"), 0);
        c.due("in all", Checks.holds(x, "7"), 8);
        c.due("not 0, once below it", Checks.holds(x, "marks - 1"), 5);
        Checks.say(x, "marks < 2");
        c.due("in those left", Checks.holds(x, "7"), 4);
        c.due("in those left", Checks.holds(x, "marks - 1"), 1);
        c.due("the TRUE WORLD may be another", Checks.holds(x, "has b"), 1);
        c.due("without PEOPLE", Checks.holds(new NinetyNights(), "1"), 1);
    }

    static void promise12NoneIsAFault(Checks c) {
        NinetyNights x = Checks.on("one a;");
        c.due("a FAULT", Checks.holds(x, "has"), -1);
        c.due("the tape is empty then", x.about(7), 0);
        c.due("an empty tape", x.holds(), -1);
        c.dueFault(x, "the empty text", 2, 0);
        Checks.holds(x, "1");
        c.due("the tape is empty then", x.about(7), 0);
    }

    // ---- 13

    static void promise13GapIsAFault(Checks c) {
        NinetyNights x = Checks.on("one a;");
        c.due("a FAULT", Checks.deep(x, "has"), NinetyNights.GAP);
        c.due("the tape is empty then", x.about(7), 0);
        c.due("an empty tape", x.deep(), NinetyNights.GAP);
        c.due("not so is no FAULT", Checks.deep(x, "has a"), -1);
        c.dueFault(x, "has a", 0, -1);
        c.due("the tape is empty then", x.about(7), 0);
    }

    static void promise13OneAloneKnowsToAnyDepth(Checks c) {
        NinetyNights x = Checks.on("one a marked;");
        c.due("he does not know", Checks.deep(x, "has a"), 0);
        c.due("said", Checks.say(x, "has a"), 1);
        c.due("in common", Checks.deep(x, "has a"), 99);
        c.due("nothing is changed by it", x.worlds(), 1);
    }

    // ---- 14

    static void promise14HowManyAreStruck(Checks c) {
        NinetyNights x = Checks.on("one a marked;one b;one d;");
        c.due("none", Checks.say(x, "1"), 0);
        c.due("one", Checks.say(x, "marks > 0"), 1);
        c.due("again none", Checks.say(x, "marks > 0"), 0);
        c.due("of those left", Checks.say(x, "has a"), 3);
        c.due("all but the TRUE one", Checks.say(x, "marks = 1"), 3);
        c.due("none is left to strike", Checks.say(x, "has a and not has b"), 0);
        c.due("the tape is empty then", x.about(7), 0);
        c.due("eight, all but one", Checks.say(Checks.on(Islands.EIGHT), "marks = 0"), 255);
    }

    static void promise14NoneByAFaultOrIfNotSo(Checks c) {
        NinetyNights x = Checks.on("one a marked;one b;");
        c.due("a FAULT", Checks.say(x, "has a b"), -1);
        c.due("the tape is empty then", x.about(7), 0);
        c.due("an empty tape", x.say(), -1);
        c.due("not so", Checks.say(x, "has b"), -1);
        c.due("not so", Checks.say(x, "0"), -1);
        c.due("the tape is empty then", x.about(7), 0);
        c.due("nothing was done", x.worlds(), 4);
    }

    // ---- 15

    static void promise15HowManyAreStruck(Checks c) {
        NinetyNights x = Checks.on("one a marked;one b;saying marks;saying has a;saying 7;saying 0 - has a;");
        c.due("below 0 is so", x.saying(3), 2);
        c.due("none", x.saying(0), 0);
        c.due("none", x.saying(2), 0);
        c.due("again", x.saying(3), 0);
    }

    static void promise15NoneSuch(Checks c) {
        NinetyNights x = Checks.on("one a marked;saying has a;saying has a;");
        for (int i = 2; i < 10; i++) {
            c.due("" + i, x.saying(i), -1);
        }
        for (int i : FAR) {
            c.due("" + i, x.saying(i), -1);
        }
        c.due("nothing was done", x.worlds(), 2);
        c.due("the last", x.saying(1), 1);
        x = Checks.on("saying 1;".repeat(6));
        c.due("of six 5", x.saying(5), 0);
        c.due("of six 6", x.saying(6), -1);
        c.due("of another island", Checks.island(x, "one a;"), 1);
        c.due("none is told here", x.saying(0), -1);
    }

    static void promise15NotSo(Checks c) {
        NinetyNights x = Checks.on("one a marked;one b;saying has b;saying not knows a(has a);saying has a;");
        c.due("not so", x.saying(0), -1);
        c.due("nothing was done", x.worlds(), 4);
        c.due("so", x.saying(1), 0);
        c.due("so", x.saying(2), 2);
        c.due("no more so", x.saying(1), -1);
        c.due("nothing was done", x.worlds(), 2);
    }

    static void promise15TheTapeStays(Checks c) {
        NinetyNights x = Checks.on("one a marked;saying has a;");
        Checks.feed(x, "7");
        x.saying(0);
        c.due("bytes", x.about(7), 1);
        c.due("they are the same", x.ask(), 7);
    }

    // ---- 16

    static void promise16OneIfItIsSoElseZero(Checks c) {
        NinetyNights x = Checks.on("one a marked;one b;");
        c.due("so", Checks.whisper(x, "has a", 1), 1);
        c.due("not 0", Checks.whisper(x, "7", 2), 1);
        c.due("not so", Checks.whisper(x, "has b", 1), 0);
        c.due("WHISPERS, so or not", x.about(4), 3);
        c.due("the tape is empty then", x.about(7), 0);
    }

    static void promise16PeopleAsBits(Checks c) {
        NinetyNights x = Checks.on("one a;one b;one d;");
        c.due("to a and d", Checks.whisper(x, "marks = 0", 0b101), 1);
        c.due("a", x.own(0), 0);
        c.due("not b", x.own(1), -2);
        c.due("d", x.own(2), 0);
        c.due("to nobody", Checks.whisper(x, "marks = 0", 0), 1);
        c.due("b hears nothing", x.own(1), -2);
        c.due("to all", Checks.whisper(x, "marks = 0", 0b111), 1);
        c.due("b hears it", x.own(1), 0);
        x = Checks.on(Islands.EIGHT);
        c.due("to all eight", Checks.whisper(x, "marks = 0", 255), 1);
        c.due("the eighth, too", x.own(7), 0);
    }

    static void promise16AFault(Checks c) {
        NinetyNights x = Checks.on("one a marked;");
        c.due("a FAULT", Checks.whisper(x, "has a a", 1), -1);
        c.due("the tape is empty then", x.about(7), 0);
        c.due("an empty tape", x.whisper(1), -1);
        c.due("no WHISPER", x.about(4), 0);
        c.due("nothing was heard", x.own(0), -2);
    }

    static void promise16PeopleThatAreNone(Checks c) {
        NinetyNights x = Checks.on("one a marked;one b;");
        for (int people : new int[] {4, 5, 7, 8, 255, 256, 257, -1, -4, Integer.MIN_VALUE, Integer.MAX_VALUE}) {
            c.due("" + people, Checks.whisper(x, "has a", people), -1);
            c.due("the tape is empty then", x.about(7), 0);
        }
        c.due("no WHISPER", x.about(4), 0);
        c.due("nothing was heard", x.own(0), -2);
        c.due("all there are", Checks.whisper(x, "has a", 3), 1);
        x = Checks.on(Islands.EIGHT);
        c.due("a ninth", Checks.whisper(x, "1", 256), -1);
        c.due("without PEOPLE", Checks.whisper(new NinetyNights(), "1", 1), -1);
        c.due("without PEOPLE, to nobody", Checks.whisper(new NinetyNights(), "1", 0), 1);
    }

    static void promise16EightWhispersAtMost(Checks c) {
        NinetyNights x = Checks.on("one a marked;one b;");
        for (int i = 0; i < 8; i++) {
            x.image(i == 7 ? 0 : 1);
            c.due("WHISPER " + i, Checks.whisper(x, "has b", 1), 0);
        }
        c.due("one more", Checks.whisper(x, "has a", 1), -1);
        c.due("the tape is empty then", x.about(7), 0);
        c.due("WHISPERS", x.about(4), 8);
        c.due("nothing was heard", x.own(0), -2);
        x.back(0);
        c.due("there were seven", Checks.whisper(x, "has a", 1), 1);
        c.due("he heard it", x.own(0), 1);
        c.due("one more", Checks.whisper(x, "has a", 1), -1);
    }
}
