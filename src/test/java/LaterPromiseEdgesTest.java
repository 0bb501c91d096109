/** Promises 17 to 28, a test for each sentence that names a boundary case. */
public final class LaterPromiseEdgesTest {
    private static final int[] FAR = {Integer.MIN_VALUE, Integer.MIN_VALUE + 1, -100001, -1000000, -257, -256, -33, -32,
        -20, -9, -8, -3, -2, -1, 256, 257, 512, 1024, 65536, 1 << 30, Integer.MAX_VALUE - 1, Integer.MAX_VALUE};

    public static void main(String[] args) throws ReflectiveOperationException {
        Sentences.run(LaterPromiseEdgesTest.class);
    }

    private static int bit(boolean b) {
        return b ? 1 : 0;
    }

    // ---- 17

    static void promise17WhoGoesAsBits(Checks c) {
        NinetyNights x = Checks.on("one a marked mirror;one b;one d marked mirror;one e mirror;");
        c.due("a and d", x.night(), 0b0101);
        c.due("nobody", x.night(), 0);
        x = Checks.on(Islands.EIGHT.replace(";", " marked mirror;"));
        c.due("all eight", x.night(), 255);
        c.due("without PEOPLE", new NinetyNights().night(), 0);
    }

    static void promise17NoneIfThereWere300(Checks c) {
        NinetyNights x = Checks.on("one a marked;one b;");
        for (int i = 1; i <= 300; i++) {
            if (i == 300) {
                x.image(0);
            }
            c.due("NIGHT " + i, x.night(), 0);
        }
        x.image(1);
        Checks.say(x, "has a");
        c.due("one more", x.night(), -1);
        c.due("nothing was done: NIGHTS", x.about(3), 300);
        c.due("nothing was done: gone", x.gone(), 0);
        c.due("nothing was done: worlds", x.worlds(), 2);
        c.due("NIGHTS that were", x.back(0), 299);
        Checks.say(x, "has a");
        c.due("there were 299", x.night(), 1);
        c.due("one more", x.night(), -1);
        c.due("NIGHTS that were", x.back(1), 300);
        c.due("one more", x.night(), -1);
        Checks.island(x, "one a marked mirror;");
        c.due("on another ISLAND there were none", x.night(), 1);
    }

    // ---- 18

    static void promise18WhoIsGone(Checks c) {
        NinetyNights x = Checks.on("one a marked mirror;one b marked;one d;one e marked mirror stays;");
        c.due("nobody", x.gone(), 0);
        x.night();
        c.due("one", x.gone(), 0b0001);
        Checks.say(x, "has b");
        c.due("not before the NIGHT", x.gone(), 0b0001);
        x.night();
        c.due("two", x.gone(), 0b0011);
        x.night();
        c.due("no more", x.gone(), 0b0011);
        x = Checks.on(Islands.EIGHT.replace(";", " marked mirror;"));
        x.night();
        c.due("all eight", x.gone(), 255);
    }

    // ---- 19

    static void promise19OnWhichNight(Checks c) {
        NinetyNights x = Checks.on("one a marked mirror;one b marked;");
        c.due("the next", x.when(0), 1);
        c.due("never", x.when(1), -1);
        Checks.say(x, "has b");
        c.due("the next", x.when(1), 1);
        x = Checks.on(Islands.LONG_STEPS);
        x.saying(0);
        c.due("the 28th", x.when(1), 28);
        c.due("the 29th", x.when(0), 29);
        c.due("who stays", x.when(2), -1);
    }

    static void promise19NothingIsDone(Checks c) {
        NinetyNights x = Checks.on(Islands.THREE);
        x.saying(0);
        c.due("the second", x.when(0), 2);
        c.due("worlds", x.worlds(), 7);
        c.due("gone", x.gone(), 0);
        c.due("NIGHTS", x.about(3), 0);
        c.due("asked again", x.when(0), 2);
        c.due("it comes so", x.night(), 0);
        c.due("it comes so", x.night(), 3);
    }

    static void promise19HeIsGone(Checks c) {
        NinetyNights x = Checks.on("one a marked mirror;one b marked;");
        x.image(0);
        x.night();
        c.due("gone", x.when(0), -1);
        x.back(0);
        c.due("not gone as it was kept", x.when(0), 1);
    }

    static void promise19NoneSuch(Checks c) {
        NinetyNights x = Checks.on("one a marked mirror;one b marked mirror;");
        for (int one = 2; one < 70; one++) {
            c.due("" + one, x.when(one), -1);
        }
        for (int one : FAR) {
            c.due("" + one, x.when(one), -1);
        }
        c.due("of eight 8", Checks.on(Islands.EIGHT.replace(";", " marked mirror;")).when(8), -1);
        c.due("of eight 7", Checks.on(Islands.EIGHT.replace(";", " marked mirror;")).when(7), 1);
        c.due("without PEOPLE", new NinetyNights().when(0), -1);
    }

    // ---- 20

    static void promise20SayingsAsBits(Checks c) {
        NinetyNights x = Checks.on("one a marked;one b marked;one d marked;saying 1;saying 1;saying has d;saying 1;"
                + "saying has b;saying has a;");
        c.due("none", x.fewest(0b000, 1), 0);
        c.due("the third", x.fewest(0b100, 1), 0b000100);
        c.due("the fifth", x.fewest(0b010, 1), 0b010000);
        c.due("the sixth", x.fewest(0b001, 1), 0b100000);
        c.due("two", x.fewest(0b011, 1), 0b110000);
        c.due("three", x.fewest(0b111, 1), 0b110100);
    }

    static void promise20AllSixSayings(Checks c) {
        String text = "one a marked;one b marked;one d marked;one e marked;one f marked;one g marked;"
                + "saying has a;saying has b;saying has d;saying has e;saying has f;saying has g;";
        NinetyNights x = Checks.on(text);
        c.due("all", x.fewest(63, 1), 63);
        c.due("five", x.fewest(62, 1), 62);
        c.due("nothing was done", x.worlds(), 64);
        c.due("nothing was done", x.about(3), 0);
        c.due("nothing was done", x.gone(), 0);
    }

    static void promise20ThereAreNone(Checks c) {
        NinetyNights x = Checks.on("one a marked;one b;one d marked stays;saying has a;saying not has b;saying has d;");
        c.due("without a mark", x.fewest(0b010, 12), -1);
        c.due("who stays", x.fewest(0b100, 12), -1);
        c.due("a", x.fewest(0b001, 12), 1);
        c.due("no SAYINGS are told", Checks.on("one a marked;").fewest(1, 12), -1);
    }

    static void promise20PeopleThatCantBe(Checks c) {
        NinetyNights x = Checks.on("one a marked;one b;saying has a;");
        for (int people : new int[] {4, 5, 7, 8, 255}) {
            c.due("" + people, x.fewest(people, 1), -1);
        }
        for (int people : FAR) {
            c.due("" + people, x.fewest(people, 1), -1);
        }
        c.due("of eight 256", Checks.on(Islands.EIGHT).fewest(256, 1), -1);
        c.due("of eight 0", Checks.on(Islands.EIGHT).fewest(0, 1), 0);
    }

    static void promise20NightsThatCantBe(Checks c) {
        NinetyNights x = Checks.on("one a marked;one b;saying has a;");
        c.due("0", x.fewest(1, 0), -1);
        c.due("1", x.fewest(1, 1), 1);
        c.due("12", x.fewest(1, 12), 1);
        c.due("13", x.fewest(1, 13), -1);
        for (int n : FAR) {
            c.due("" + n, x.fewest(0, n), -1);
        }
        c.due("nobody, in 0", x.fewest(0, 0), -1);
        c.due("nobody, in 13", x.fewest(0, 13), -1);
    }

    static void promise20ByWhatIsPossibleNow(Checks c) {
        NinetyNights x = Checks.on("one a marked;one b marked;saying marks;saying not knows a(has a);");
        c.due("at first", x.fewest(0b11, 2), 0b01);
        x.saying(0);
        c.due("nothing more", x.fewest(0b11, 2), 0);
        c.due("b alone", x.fewest(0b10, 1), 0b10);
        Checks.whisper(x, "has a", 1);
        c.due("a was whispered to: b learns nothing as he goes", x.fewest(0b11, 2), -1);
        c.due("a knows, so that the other is not so", x.fewest(0b10, 1), -1);
        c.due("a alone", x.fewest(0b01, 2), 0);
    }

    static void promise20AskedBeforeItAnswersAsAtFirst(Checks c) {
        NinetyNights x = Checks.on("one a;one b;saying not has b;");
        c.due("nobody by one", x.fewest(1, 1), -1);
        Checks.island(x, "one a;one b marked;saying has b;");
        c.due("another ISLAND", x.fewest(2, 1), 1);
        c.due("again", x.fewest(2, 1), 1);
        Checks.whisper(x, "has b", 2);
        c.due("behind a WHISPER", x.fewest(2, 1), 0);
    }

    // ---- 21

    static void promise21ItsNumber(Checks c) {
        NinetyNights x = Checks.on("one a;one b;");
        for (int i = 0; i < 20; i++) {
            c.due("SIGHT " + i, x.sight(i % 2, 1 + i % 12, i % 3 == 0), i);
            c.due("SIGHTS", x.about(5), i + 1);
        }
    }

    static void promise21ThereAre20(Checks c) {
        NinetyNights x = Checks.on("one a;one b;saying has a;");
        for (int i = 0; i < 20; i++) {
            x.sight(0, 1, true);
        }
        c.due("one more", x.sight(1, 1, true), -1);
        c.due("nothing was done", x.about(5), 20);
        c.due("nothing was done", x.fits(0), 2);
        x.untell(3);
        c.due("one that was UNTOLD is there still", x.sight(1, 1, true), -1);
        c.due("nothing was done", x.about(5), 20);
        Checks.island(x, "one a;");
        c.due("on another ISLAND there are none", x.sight(0, 1, true), 0);
    }

    static void promise21OneThatCantBe(Checks c) {
        NinetyNights x = Checks.on("one a;one b;");
        for (int one = 2; one < 40; one++) {
            c.due("" + one, x.sight(one, 1, true), -1);
        }
        for (int one : FAR) {
            c.due("" + one, x.sight(one, 1, false), -1);
        }
        c.due("nothing was done", x.about(5), 0);
        c.due("the last", x.sight(1, 1, true), 0);
        c.due("without PEOPLE", new NinetyNights().sight(0, 1, true), -1);
    }

    static void promise21ANightThatCantBe(Checks c) {
        NinetyNights x = Checks.on("one a;one b;");
        c.due("0", x.sight(0, 0, false), -1);
        c.due("13", x.sight(0, 13, false), -1);
        for (int night : FAR) {
            c.due("" + night, x.sight(0, night, true), -1);
        }
        c.due("nothing was done", x.about(5), 0);
        c.due("1", x.sight(0, 1, false), 0);
        c.due("12", x.sight(0, 12, false), 1);
    }

    static void promise21WithMoreThanSixPeopleToo(Checks c) {
        NinetyNights x = Checks.on(Islands.EIGHT);
        c.due("told", x.sight(7, 12, true), 0);
        c.due("untold", bit(x.untell(0)), 1);
        c.due("SPENT", x.fits(0), -2);
    }

    // ---- 22

    static void promise22ItIsUntold(Checks c) {
        NinetyNights x = Checks.on("one a;saying has a;");
        x.sight(0, 1, true);
        x.sight(0, 2, true);
        c.due("none fits", x.fits(0), 0);
        c.due("untold", bit(x.untell(1)), 1);
        c.due("the other counts", x.fits(0), 1);
        c.due("SIGHTS", x.about(5), 2);
    }

    static void promise22ItIsSoAlready(Checks c) {
        NinetyNights x = Checks.on("one a;saying has a;");
        x.sight(0, 1, true);
        x.later(5);
        c.due("untold", bit(x.untell(0)), 1);
        c.due("already", bit(x.untell(0)), 0);
        x.later(5);
        c.due("already, and it stays UNTOLD when it was", bit(x.untell(0)), 0);
        c.due("before", x.fits(4), 1);
        c.due("then", x.fits(5), 3);
    }

    static void promise22NoneSuch(Checks c) {
        NinetyNights x = Checks.on("one a;");
        c.due("none is told", bit(x.untell(0)), 0);
        x.sight(0, 1, false);
        c.due("1", bit(x.untell(1)), 0);
        c.due("19", bit(x.untell(19)), 0);
        c.due("20", bit(x.untell(20)), 0);
        for (int i : FAR) {
            c.due("" + i, bit(x.untell(i)), 0);
        }
        c.due("that one", bit(x.untell(0)), 1);
        x.sight(0, 1, false);
        for (int i = 2; i < 20; i++) {
            x.sight(0, 1, false);
        }
        c.due("19", bit(x.untell(19)), 1);
        c.due("20", bit(x.untell(20)), 0);
        Checks.island(x, "one a;");
        c.due("on another ISLAND there are none", bit(x.untell(1)), 0);
        x.sight(0, 1, true);
        c.due("told anew, not UNTOLD", bit(x.untell(0)), 1);
    }

    // ---- 23

    static void promise23SoMuchLater(Checks c) {
        NinetyNights x = new NinetyNights();
        c.due("0", x.later(0), 0);
        c.due("1", x.later(1), 1);
        c.due("1000", x.later(1000), 1001);
        c.due("0", x.later(0), 1001);
        c.due("TIME", x.about(6), 1001);
    }

    static void promise23NoneForAnotherNumber(Checks c) {
        NinetyNights x = new NinetyNights();
        x.later(7);
        c.due("-1", x.later(-1), -1);
        c.due("1001", x.later(1001), -1);
        c.due("100000", x.later(100000), -1);
        c.due("least", x.later(Integer.MIN_VALUE), -1);
        c.due("most", x.later(Integer.MAX_VALUE), -1);
        c.due("nothing was done", x.about(6), 7);
    }

    static void promise23NoneAbove100000(Checks c) {
        NinetyNights x = Checks.on("one a;");
        for (int i = 0; i < 99; i++) {
            x.later(1000);
        }
        c.due("99,500", x.later(500), 99500);
        c.due("above", x.later(501), -1);
        c.due("nothing was done", x.about(6), 99500);
        c.due("just", x.later(500), 100000);
        c.due("above", x.later(1), -1);
        c.due("above", x.later(1000), -1);
        c.due("0 is not above", x.later(0), 100000);
        x.sight(0, 1, true);
        c.due("told at that TIME", x.fits(99999), 2);
        c.due("told at that TIME", x.fits(100000), 0);
    }

    // ---- 24

    static void promise24HowManyFit(Checks c) {
        NinetyNights x = Checks.on(Islands.THREE);
        c.due("nothing 8, marks > 0 7, has ann 4", x.fits(0), 19);
        x.sight(0, 1, true);
        c.due("ann alone, or has ann was said", x.fits(0), 5);
        x.sight(0, 1, false);
        c.due("both can't be", x.fits(0), 0);
        c.due("without PEOPLE", new NinetyNights().fits(0), 1);
        c.due("without PEOPLE, a SAYING", Checks.on("saying 1;saying 0;saying 2;").fits(0), 3);
    }

    static void promise24AllSixSayings(Checks c) {
        NinetyNights x = Checks.on("one a;one b;one d;one e;one f;one g;saying has a;saying has b;saying has d;"
                + "saying has e;saying has f;saying has g;");
        c.due("nothing or one of six", x.fits(0), 64 + 6 * 32);
        x.sight(5, 1, true);
        c.due("the sixth", x.fits(0), 32);
        x.sight(0, 1, true);
        c.due("not the first, too", x.fits(0), 0);
    }

    static void promise24AsKnownAtAnyTime(Checks c) {
        NinetyNights x = Checks.on("one a;saying has a;");
        x.sight(0, 1, true);
        c.due("below 0 nothing is known", x.fits(-1), 3);
        c.due("below 0 nothing is known", x.fits(Integer.MIN_VALUE), 3);
        c.due("0", x.fits(0), 1);
        c.due("what is to come changes nothing", x.fits(1), 1);
        c.due("what is to come changes nothing", x.fits(Integer.MAX_VALUE), 1);
        x.untell(0);
        c.due("untold", x.fits(Integer.MAX_VALUE), 3);
    }

    static void promise24Spent(Checks c) {
        NinetyNights x = Checks.on("one a;one b;one d;one e;one f;one g;one h;saying 0;");
        c.due("seven", x.fits(0), -2);
        c.due("seven, at any TIME", x.fits(-1), -2);
        c.due("eight", Checks.on(Islands.EIGHT).fits(0), -2);
        Checks.island(x, "one a;one b;one d;one e;one f;one g;saying marks = 6;");
        c.due("six", x.fits(0), 65);
        x.sight(5, 1, true);
        c.due("six, the last went", x.fits(0), 1);
        c.due("eight again", Checks.island(x, Islands.EIGHT), 8);
        c.due("eight again", x.fits(0), -2);
    }

    // ---- 25

    static void promise25OneZeroOrBoth(Checks c) {
        NinetyNights x = Checks.on("one a;one b;law own;saying marks = 1;");
        c.due("both can be", x.sure(0, 0), -2);
        x.sight(0, 1, true);
        c.due("both can be", x.sure(0, 0), -2);
        x = Checks.on("one a;one b;saying marks = 1;");
        x.sight(0, 1, true);
        c.due("he has one", x.sure(0, 0), 1);
        c.due("he has none", x.sure(1, 0), 0);
        c.due("as known before", x.sure(1, -1), -2);
        x = Checks.on("one a;one b;one d;one e;one f;one g;saying has g;");
        x.sight(5, 1, true);
        c.due("the last of six", x.sure(5, 0), 1);
        c.due("the first of six", x.sure(0, 0), -2);
    }

    static void promise25NoneFits(Checks c) {
        NinetyNights x = Checks.on("one a;one b;saying has a;");
        x.later(3);
        x.sight(1, 1, true);
        c.due("none", x.sure(0, 3), -1);
        c.due("as known before", x.sure(0, 2), -2);
        x.later(1);
        x.untell(0);
        c.due("as known behind it", x.sure(0, 4), -2);
    }

    static void promise25NoneSuch(Checks c) {
        NinetyNights x = Checks.on("one a;one b;");
        for (int one = 2; one < 40; one++) {
            c.due("" + one, x.sure(one, 0), -1);
        }
        for (int one : FAR) {
            c.due("" + one, x.sure(one, 0), -1);
        }
        c.due("of six 6", Checks.on(Islands.EIGHT.substring(0, 36)).sure(6, 0), -1);
        c.due("of eight 8", Checks.on(Islands.EIGHT).sure(8, 0), -1);
        c.due("of eight -1", Checks.on(Islands.EIGHT).sure(-1, 0), -1);
    }

    static void promise25Spent(Checks c) {
        NinetyNights x = Checks.on(Islands.EIGHT.substring(0, 42));
        for (int one = 0; one < 7; one++) {
            c.due("of seven " + one, x.sure(one, 0), -3);
        }
        c.due("at any TIME", x.sure(0, -1), -3);
        c.due("of eight", Checks.on(Islands.EIGHT).sure(7, 0), -3);
        c.due("of six", Checks.on(Islands.EIGHT.substring(0, 36)).sure(5, 0), -2);
    }

    // ---- 26

    static void promise26NightsThatWere(Checks c) {
        NinetyNights x = Checks.on("one a;");
        c.due("none", x.image(0), 0);
        x.night();
        c.due("one", x.image(1), 1);
        x.night();
        c.due("two", x.image(2), 2);
        c.due("NIGHTS are as they were", x.about(3), 2);
    }

    static void promise26NoneSuch(Checks c) {
        NinetyNights x = Checks.on("one a;");
        c.due("3", x.image(3), -1);
        for (int box : FAR) {
            c.due("" + box, x.image(box), -1);
        }
        for (int box = 0; box < 3; box++) {
            c.due("nothing was kept in " + box, x.back(box), -1);
        }
    }

    static void promise26ABoxIsKeptAnew(Checks c) {
        NinetyNights x = Checks.on("one a marked;one b;");
        x.image(0);
        Checks.say(x, "has a");
        x.night();
        c.due("kept anew", x.image(0), 1);
        x.night();
        c.due("as it was kept last", x.back(0), 1);
        c.due("worlds", x.worlds(), 2);
        c.due("gone", x.gone(), 1);
    }

    // ---- 27

    static void promise27AllIsAsItWasKept(Checks c) {
        NinetyNights x = Checks.on("one a marked mirror;one b marked;one d;saying has b;");
        Checks.whisper(x, "has d", 0b010);
        x.night();
        x.image(1);
        x.saying(0);
        x.night();
        Checks.whisper(x, "has d", 0b100);
        c.due("NIGHTS that were", x.back(1), 1);
        c.due("NIGHTS", x.about(3), 1);
        c.due("WHISPERS", x.about(4), 1);
        c.due("worlds", x.worlds(), 4);
        for (int world = 0; world < 8; world++) {
            c.due("world " + world, x.possible(world), world & 1);
        }
        c.due("gone", x.gone(), 1);
        c.due("d was not whispered to", x.own(2), -2);
        c.due("nor b his own", x.own(1), -2);
        c.due("gone on from", x.saying(0), 2);
        c.due("gone on from", x.night(), 2);
    }

    static void promise27WhatWasWhisperedIsKept(Checks c) {
        NinetyNights x = Checks.on("one a;one b;blind a b;");
        x.image(0);
        Checks.whisper(x, "has b", 1);
        x.image(1);
        Checks.whisper(x, "has a", 1);
        x.image(2);
        c.due("none", x.back(0), 0);
        c.due("none", x.like(0, 0, 2) * 10 + x.like(0, 0, 1), 11);
        c.due("one", x.back(1), 0);
        c.due("one", x.like(0, 0, 2) * 10 + x.like(0, 0, 1), 1);
        c.due("two", x.back(2), 0);
        c.due("two", x.like(0, 0, 2) * 10 + x.like(0, 0, 1), 0);
        c.due("none again", x.back(0), 0);
        c.due("none again", x.like(0, 0, 2) * 10 + x.like(0, 0, 1), 11);
    }

    static void promise27OftenFromOneBox(Checks c) {
        NinetyNights x = Checks.on("one a marked;one b;");
        x.image(2);
        for (int i = 0; i < 3; i++) {
            c.due("back", x.back(2), 0);
            c.due("all worlds", x.worlds(), 4);
            c.due("said", Checks.say(x, "has a"), 2);
            c.due("he goes", x.night(), 1);
        }
    }

    static void promise27SightsTimeTapeAndFaultStay(Checks c) {
        NinetyNights x = Checks.on("one a;one b;");
        x.image(0);
        x.later(5);
        x.sight(0, 1, true);
        Checks.ask(x, "1 1");
        Checks.feed(x, "77");
        x.back(0);
        c.due("SIGHTS", x.about(5), 1);
        c.due("TIME", x.about(6), 5);
        c.due("TAPE", x.about(7), 2);
        c.dueFault(x, "1 1", 2, 2);
    }

    static void promise27NothingWasKept(Checks c) {
        NinetyNights x = Checks.on("one a marked mirror;");
        x.image(1);
        x.night();
        c.due("0", x.back(0), -1);
        c.due("2", x.back(2), -1);
        c.due("3", x.back(3), -1);
        for (int box : FAR) {
            c.due("" + box, x.back(box), -1);
        }
        c.due("nothing was done: NIGHTS", x.about(3), 1);
        c.due("nothing was done: gone", x.gone(), 1);
        c.due("nothing was done: worlds", x.worlds(), 1);
        c.due("1", x.back(1), 0);
    }

    // ---- 28

    static void promise28EachWhat(Checks c) {
        NinetyNights x = Checks.on("one a marked;one b;one d marked;one e;saying marks > 0;saying has a and has d;");
        x.night();
        x.night();
        x.night();
        x.night();
        x.night();
        x.night();
        Checks.whisper(x, "1", 0);
        x.later(8);
        for (int i = 0; i < 7; i++) {
            x.sight(0, 1, false);
        }
        Checks.feed(x, "123456789");
        int[] due = {4, 2, 5, 6, 1, 7, 8, 9, 4};
        for (int what = 0; what < due.length; what++) {
            c.due("what " + what, x.about(what), due[what]);
        }
    }

    static void promise28TheMostOfEach(Checks c) {
        String all = Islands.EIGHT.replace(";", " marked;");
        NinetyNights x = Checks.on(all + ("saying " + "1+".repeat(9) + "1;").repeat(6));
        c.due("PEOPLE", x.about(0), 8);
        c.due("SAYINGS", x.about(1), 6);
        c.due("the TRUE WORLD", x.about(2), 255);
        c.due("units", x.about(8), 60);
        Checks.feed(x, " ".repeat(1600));
        c.due("bytes on the TAPE", x.about(7), 1600);
    }

    static void promise28TheTrueWorldStays(Checks c) {
        NinetyNights x = Checks.on("one a marked mirror;one b;");
        x.night();
        c.due("though one is gone", x.about(2), 1);
        c.due("PEOPLE, gone or not", x.about(0), 2);
    }

    static void promise28NoneForAnotherWhat(Checks c) {
        NinetyNights x = Checks.on("one a;");
        for (int what = 9; what < 50; what++) {
            c.due("" + what, x.about(what), -1);
        }
        for (int what : FAR) {
            c.due("" + what, x.about(what), -1);
        }
    }
}
