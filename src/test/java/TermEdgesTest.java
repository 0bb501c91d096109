/** The second to the fourth part of the document's terms, a sentence each. */
public final class TermEdgesTest {
    public static void main(String[] args) throws ReflectiveOperationException {
        Sentences.run(TermEdgesTest.class);
    }

    private static int bit(boolean b) {
        return b ? 1 : 0;
    }

    // ---- 2: worlds, who sees whom, what is known

    static void terms2AWorldTellsMarksAsBits(Checks c) {
        NinetyNights x = Checks.on("one a;one b marked;one c;one d marked;");
        c.due("the TRUE one is as told", x.about(2), 0b1010);
        Checks.say(x, "has b and has d and marks = 2");
        for (int world = 0; world < 16; world++) {
            c.due("world " + world, x.possible(world), bit(world == 0b1010));
        }
    }

    static void terms2EachSeesAllOthersAndNotHisOwn(Checks c) {
        NinetyNights x = Checks.on(Islands.EIGHT);
        for (int one = 0; one < 8; one++) {
            c.due("one " + one + " sees", x.sees(one), 255 & ~(1 << one));
            for (int other = 0; other < 8; other++) {
                c.due(one + " sees " + other, x.like(one, 0, 1 << other), bit(one == other));
            }
        }
    }

    static void terms2ButThoseForWhomHeIsBlind(Checks c) {
        NinetyNights x = Checks.on("one a;one b;one c;blind a b;");
        c.due("a does not see b", x.like(0, 0b000, 0b010), 1);
        c.due("nor himself", x.like(0, 0b000, 0b011), 1);
        c.due("he sees c", x.like(0, 0b000, 0b100), 0);
        c.due("b sees a", x.like(1, 0b000, 0b001), 0);
    }

    static void terms2OneWithAMirrorSeesHisOwnToo(Checks c) {
        NinetyNights x = Checks.on("one a mirror;one b;blind a b;");
        c.due("sees", x.sees(0), 0b01);
        c.due("his own", x.like(0, 0b00, 0b01), 0);
        c.due("b", x.like(0, 0b00, 0b10), 1);
    }

    static void terms2WhoSeesWhomIsKnownInCommon(Checks c) {
        NinetyNights x = Checks.on("one a;one b mirror;one d;blind d a;");
        c.due("the mirror", Checks.deep(x, "knows b(has b) or knows b(not has b)"), 99);
        c.due("d is blind for a", Checks.deep(x, "not knows d(has a) and not knows d(not has a)"), 99);
        c.due("a sees d", Checks.deep(x, "knows a(has d) = has d"), 99);
    }

    static void terms2AllWorldsArePossibleAtFirst(Checks c) {
        for (int people = 0; people <= 8; people++) {
            NinetyNights x = Checks.on(Islands.EIGHT.substring(0, 6 * people));
            c.due("worlds of " + people, x.worlds(), 1 << people);
            for (int world = 0; world < 1 << people; world++) {
                c.due("possible " + world + " of " + people, x.possible(world), 1);
            }
        }
    }

    static void terms2NobodyKnowsHisOwnAtFirst(Checks c) {
        NinetyNights x = Checks.on("one a marked;one b;one c stays;");
        for (int one = 0; one < 3; one++) {
            c.due("own of " + one, x.own(one), -2);
        }
    }

    static void terms2LikeIfWhispersAreSoInBothOrInNeither(Checks c) {
        NinetyNights x = Checks.on("one a;one b;one c;blind a b;blind a c;");
        c.due("before", x.like(0, 0b000, 0b110), 1);
        Checks.whisper(x, "has b", 0b001);
        c.due("so in one", x.like(0, 0b000, 0b010), 0);
        c.due("so in both", x.like(0, 0b010, 0b110), 1);
        c.due("so in neither", x.like(0, 0b000, 0b100), 1);
        Checks.whisper(x, "has c", 0b001);
        c.due("the first is so in both, the second in one", x.like(0, 0b010, 0b110), 0);
        c.due("the first is so in one still", x.like(0, 0b000, 0b010), 0);
        c.due("both are so in both", x.like(0, 0b110, 0b111), 1);
        c.due("both are so in neither", x.like(0, 0b000, 0b001), 1);
        Checks.whisper(x, "has a", 0b010);
        c.due("not whispered to a", x.like(0, 0b000, 0b001), 1);
        c.due("b sees it anyway", x.like(1, 0b000, 0b010), 1);
    }

    static void terms2AWhisperTellsOnlyWhetherItIsNotZero(Checks c) {
        NinetyNights x = Checks.on("one a;one b;one d;blind a b;blind a d;");
        Checks.whisper(x, "has b * 2 + has d * 3", 0b001);
        c.due("0 and 2", x.like(0, 0b000, 0b010), 0);
        c.due("2 and 3", x.like(0, 0b010, 0b100), 1);
        c.due("3 and 5", x.like(0, 0b100, 0b110), 1);
        c.due("0 and 5", x.like(0, 0b000, 0b110), 0);
    }

    static void terms2OneKnowsWhatIsSoInAllLikePossibleWorlds(Checks c) {
        NinetyNights x = Checks.on("one a marked;one b marked;");
        c.due("he sees it", Checks.ask(x, "knows a(has b)"), 1);
        c.due("not his own", Checks.ask(x, "knows a(has a)"), 0);
        c.due("in each WORLD", Checks.holds(x, "knows a(has b)"), 2);
        Checks.say(x, "has a");
        c.due("but of those POSSIBLE", Checks.ask(x, "knows a(has a)"), 1);
    }

    static void terms2WhatIsNotZeroIsSo(Checks c) {
        NinetyNights x = Checks.on("one a marked;one b;");
        c.due("known, below 0", Checks.ask(x, "knows a(has a - 7)"), 1);
        c.due("known, 0 in one", Checks.ask(x, "knows a(has a - 1)"), 0);
        c.due("all", Checks.ask(x, "all(marks - 7)"), 1);
        c.due("common", Checks.ask(x, "common(0 - 1)"), 1);
        c.due("holds", Checks.holds(x, "marks - 1"), 2);
        c.due("and", Checks.ask(x, "(0 - 1) and 2"), 1);
        c.due("or", Checks.ask(x, "0 or 0 - 3"), 1);
        c.due("not", Checks.ask(x, "not 0 - 3"), 0);
        c.due("deep", Checks.deep(x, "0 - 1"), 99);
        c.due("whispered", Checks.whisper(x, "0 - 1", 1), 1);
        Checks.whisper(x, "1 + has a", 1);
        c.due("so in both, though not the same", x.like(0, 0, 1), 1);
        c.due("said", Checks.say(x, "0 - has a"), 2);
    }

    static void terms2MarksHasGone(Checks c) {
        NinetyNights x = Checks.on("one a marked mirror;one b;one c marked;");
        c.due("marks", Checks.ask(x, "marks"), 2);
        c.due("has", Checks.ask(x, "has a * 100 + has b * 10 + has c"), 101);
        c.due("nobody is gone", Checks.ask(x, "gone a + gone b + gone c"), 0);
        x.night();
        c.due("a is gone", Checks.ask(x, "gone a * 100 + gone b * 10 + gone c"), 100);
        c.due("the same in all", Checks.holds(x, "gone a"), x.worlds());
    }

    static void terms2KnowsAllCommonAreOneOrZero(Checks c) {
        c.goodFormula("knows a(7)", 1);
        c.goodFormula("all(7)", 1);
        c.goodFormula("common(7)", 1);
        c.goodFormula("knows a(0)", 0);
        c.goodFormula("all(0)", 0);
        c.goodFormula("common(0)", 0);
        c.goodFormula("(7)", 7);
    }

    static void terms2AllIsEachOfThePeopleGoneOrNot(Checks c) {
        NinetyNights x = Checks.on("one a marked mirror;one b marked mirror stays;one c;blind a b;");
        c.due("a goes", x.night(), 1);
        c.due("a does not know", Checks.ask(x, "knows a(has b)"), 0);
        c.due("the others do", Checks.ask(x, "knows b(has b) and knows c(has b)"), 1);
        c.due("so not all do", Checks.ask(x, "all(has b)"), 0);
        c.due("nor in common", Checks.ask(x, "common(has b)"), 0);
        c.due("nor deep", Checks.deep(x, "has b"), 0);
        Checks.whisper(x, "has b", 1);
        c.due("now all do", Checks.ask(x, "all(has b)"), 1);
    }

    static void terms2CommonIsWithoutEnd(Checks c) {
        NinetyNights x = Checks.on("one a marked;one b marked;one c marked;one d marked;");
        c.due("all know", Checks.ask(x, "all(marks > 0)"), 1);
        c.due("all know that all know", Checks.ask(x, "all(all(marks > 0))"), 1);
        c.due("three times", Checks.ask(x, "all(all(all(marks > 0)))"), 1);
        c.due("but no more", Checks.ask(x, "all(all(all(all(marks > 0))))"), 0);
        c.due("so not in common", Checks.ask(x, "common(marks > 0)"), 0);
        Checks.say(x, "marks");
        c.due("said", Checks.ask(x, "common(marks > 0)"), 1);
        c.due("all know that it is", Checks.ask(x, "all(common(marks > 0))"), 1);
    }

    static void terms2CommonIsWeighedInEachWorld(Checks c) {
        NinetyNights x = Checks.on("one a marked;one b;one c;");
        Checks.whisper(x, "has a", 0b111);
        c.due("where it is so", Checks.holds(x, "common(has a)"), 4);
        c.due("in the TRUE one", Checks.ask(x, "common(has a)"), 1);
        c.due("where it is not", Checks.holds(x, "common(not has a)"), 4);
        c.due("it is so itself", Checks.holds(x, "common(has a) and not has a"), 0);
        Checks.whisper(x, "has c", 0b011);
        c.due("not to c", Checks.holds(x, "common(has c)"), 0);
        Checks.whisper(x, "has b", 0b011);
        c.due("c sees b", Checks.holds(x, "common(has b)"), 4);
    }

    static void terms2WithoutPeopleCommonIsAsItIs(Checks c) {
        NinetyNights x = new NinetyNights();
        c.due("so", Checks.ask(x, "common(1)"), 1);
        c.due("not so", Checks.ask(x, "common(0)"), 0);
        c.due("not so", Checks.ask(x, "common(marks)"), 0);
        c.due("deep", Checks.deep(x, "1"), 99);
        c.due("deep, not so", Checks.deep(x, "marks"), -1);
        c.due("each of none knows", Checks.ask(x, "all(0)"), 1);
    }

    static void terms2IntsWrap(Checks c) {
        c.goodFormula("2048*1024*1024", Integer.MIN_VALUE);
        c.goodFormula("2048*1024*1024-1", Integer.MAX_VALUE);
        c.goodFormula("2048*1024*1024-1+1", Integer.MIN_VALUE);
        c.goodFormula("4096*1024*1024", 0);
        c.goodFormula("9999*9999*9999", 9999 * 9999 * 9999);
        c.goodFormula("0-2048*1024*1024", Integer.MIN_VALUE);
        c.goodFormula("not 4096*1024*1024", 1);
        c.goodFormula("2048*1024*1024 < 0", 1);
        c.goodFormula("2048*1024*1024 < 2048*1024*1024-1", 1);
        c.goodFormula("2048*1024*1024-1 > 2048*1024*1024", 1);
    }

    static void terms2DivisionIsCut(Checks c) {
        c.goodFormula("7/2", 3);
        c.goodFormula("(0-7)/2", -3);
        c.goodFormula("7/(0-2)", -3);
        c.goodFormula("(0-7)/(0-2)", 3);
        c.goodFormula("1/2", 0);
        c.goodFormula("(0-1)/2", 0);
        c.goodFormula("2048*1024*1024/(0-1)", Integer.MIN_VALUE);
    }

    static void terms2DivisionByZeroIsZero(Checks c) {
        c.goodFormula("7/0", 0);
        c.goodFormula("0/0", 0);
        c.goodFormula("(0-7)/has b", 0);
        c.goodFormula("7/has a", 7);
        c.goodFormula("1+9999/(1-1)", 1);
    }

    static void terms2RelationsAndOrNotAreOneOrZero(Checks c) {
        c.goodFormula("(1<2)*10+(2<2)", 10);
        c.goodFormula("(2>1)*10+(2>2)", 10);
        c.goodFormula("(2=2)*10+(2=1)", 10);
        c.goodFormula("(0-1<0)*10+(0-1>0)", 10);
        c.goodFormula("(7 and 8)*10+(7 and 0)+(0 and 7)+(0 and 0)", 10);
        c.goodFormula("(0 or 0)*1000+(7 or 0)*100+(0 or 8)*10+(7 or 8)", 111);
        c.goodFormula("(not 7)*10+(not 0)", 1);
        c.goodFormula("(1 or 1)+(1 and 1)+(1=1)", 3);
    }

    static void terms2DeepIsMinusOneIfItIsNotSo(Checks c) {
        NinetyNights x = Checks.on("one a marked;one b;");
        c.due("0", Checks.deep(x, "0"), -1);
        c.due("not so in the TRUE WORLD", Checks.deep(x, "has b"), -1);
        c.due("and so in it alone", Checks.deep(x, "has a and not has b"), 0);
    }

    static void terms2DeepIsHowOftenAllKnow(Checks c) {
        NinetyNights x = Checks.on("one a marked;one b marked;one c marked;one d;");
        c.due("not all know", Checks.deep(x, "marks > 2"), 0);
        c.due("all know", Checks.deep(x, "marks > 1"), 1);
        c.due("all know that all know", Checks.deep(x, "marks > 0"), 2);
        c.due("in common", Checks.deep(x, "marks > 0 - 1"), 99);
    }

    static void terms2DeepIs98AtMostBut99InCommon(Checks c) {
        NinetyNights x = Islands.chain();
        for (int step : new int[] {1, 2, 3, 97, 98, 99, 100, 101, 102, 255}) {
            c.due("not so at step " + step, Checks.deep(x, "not (" + Islands.atStep(step) + ")"), Math.min(step - 1, 98));
        }
        c.due("so everywhere", Checks.deep(x, "marks < 9"), 99);
        c.due("said", Checks.say(x, "not (" + Islands.atStep(255) + ")"), 1);
        c.due("in common then", Checks.deep(x, "not (" + Islands.atStep(255) + ")"), 99);
    }

    // ---- 3: what is said and whispered, nights

    static void terms3OnlyWhatIsSoIsSaid(Checks c) {
        NinetyNights x = Checks.on("one a marked;one b;saying has b;");
        c.due("not so", Checks.say(x, "has b"), -1);
        c.due("not so, told", x.saying(0), -1);
        c.due("nothing is struck", x.worlds(), 4);
        c.due("so", Checks.say(x, "has a"), 2);
    }

    static void terms3ThoseAreLeftInWhichItWasSo(Checks c) {
        NinetyNights x = Checks.on("one a marked;one b marked;");
        Checks.say(x, "marks");
        c.due("nobody knows", Checks.say(x, "not knows a(has a) and not knows b(has b)"), 2);
        c.due("it was so, and is no more", Checks.ask(x, "not knows a(has a)"), 0);
        c.due("both know", x.own(0) + x.own(1), 2);
    }

    static void terms3WhatIsSaidAllHearInCommon(Checks c) {
        NinetyNights x = Checks.on("one a marked;one b stays;one d;blind b a;blind d a;");
        c.due("before", Checks.deep(x, "has a"), 0);
        Checks.say(x, "has a");
        c.due("behind it", Checks.deep(x, "has a"), 99);
    }

    static void terms3EachOfThoseKnowsWhetherItIsSo(Checks c) {
        NinetyNights x = Checks.on("one a marked;one b;one d;");
        c.due("so", Checks.whisper(x, "has a", 0b001), 1);
        c.due("he knows that it is", x.own(0), 1);
        c.due("not so", Checks.whisper(x, "has b", 0b010), 0);
        c.due("he knows that it is not", x.own(1), 0);
        c.due("the third knows nothing", x.own(2), -2);
        c.due("nothing is struck", x.worlds(), 8);
    }

    static void terms3AllSeeToWhomItIsWhispered(Checks c) {
        NinetyNights x = Checks.on("one a marked;one b;one d;blind d a;");
        String whether = "knows a(has a) or knows a(not has a)";
        c.due("before", Checks.ask(x, whether), 0);
        Checks.whisper(x, "has a", 0b001);
        c.due("in common", Checks.deep(x, whether), 99);
        c.due("d knows no more of it", Checks.ask(x, "knows d(has a)"), 0);
        c.due("and all know this, too", Checks.deep(x, "not knows d(has a) and not knows d(not has a)"), 99);
    }

    static void terms3AWhisperIsWeighedByWhatWasPossibleThen(Checks c) {
        NinetyNights x = Checks.on("one a marked;one b;");
        c.due("nobody knows yet", Checks.whisper(x, "knows a(has a)", 0b10), 0);
        Checks.say(x, "marks");
        c.due("b learned nothing by it", x.like(1, 0b01, 0b11), 1);
        c.due("now a knows", Checks.whisper(x, "knows a(has a)", 0b10), 1);
        c.due("and b that he has none", x.own(1), 0);
        Checks.say(x, "not has b");
        c.due("still so", x.own(1), 0);
    }

    static void terms3WhoKnowsThatHeHasAMarkGoes(Checks c) {
        NinetyNights x = Checks.on("one a marked mirror;one b mirror;one d marked;");
        c.due("not who knows that he has none, nor who does not know", x.night(), 0b001);
    }

    static void terms3ByTheLawOwnWhoKnowsWhetherHeHas(Checks c) {
        NinetyNights x = Checks.on("one a marked mirror;one b mirror;one d marked;law own;");
        c.due("not who does not know", x.night(), 0b011);
    }

    static void terms3WhoStaysNeverGoes(Checks c) {
        NinetyNights x = Checks.on("one a marked mirror stays;one b mirror stays;one d marked;law own;");
        c.due("nobody", x.night(), 0);
        c.due("never", x.when(0), -1);
        c.due("but he knows", x.own(0), 1);
    }

    static void terms3WhoIsGoneGoesNoMore(Checks c) {
        NinetyNights x = Checks.on("one a marked mirror;one b;");
        c.due("he goes", x.night(), 1);
        c.due("once", x.night(), 0);
        c.due("he is gone", x.gone(), 1);
    }

    static void terms3LeftAreThoseInWhichJustTheseWouldHaveGone(Checks c) {
        NinetyNights x = Checks.on("one a marked mirror;one b mirror;one d;");
        x.night();
        for (int world = 0; world < 8; world++) {
            c.due("a with a mark, b without: world " + world, x.possible(world), bit((world & 3) == 1));
        }
        x = Checks.on("one a mirror;one b mirror;one d;");
        c.due("nobody goes", x.night(), 0);
        c.due("which tells something, too", x.worlds(), 2);
        x = Checks.on("one a mirror;one b;law own;");
        c.due("he would go in any WORLD", x.night(), 1);
        c.due("which tells nothing", x.worlds(), 4);
        x = Checks.on("one a marked mirror stays;one b;");
        x.night();
        c.due("one who stays tells nothing", x.worlds(), 4);
    }

    static void terms3AllSeeInCommonWhoWent(Checks c) {
        NinetyNights x = Checks.on("one a marked mirror;one b;one d;blind b a;blind d a;");
        c.due("before", Checks.deep(x, "has a"), 0);
        x.night();
        c.due("by morning", Checks.deep(x, "has a"), 99);
    }

    static void terms3WhenCountsFromTheNextNight(Checks c) {
        NinetyNights x = Checks.on("one a marked;one b marked;one d marked;one e;");
        Checks.say(x, "marks");
        c.due("the third", x.when(0), 3);
        x.night();
        c.due("the second from now on", x.when(1), 2);
        x.night();
        c.due("the next", x.when(2), 1);
        c.due("they go", x.night(), 0b0111);
    }

    static void terms3WhenIsNeverOnceNothingHappens(Checks c) {
        NinetyNights x = Checks.on("one a marked;one b marked;");
        c.due("nothing was said", x.when(0), -1);
        x = Checks.on(Islands.STEPS);
        c.due("nothing was said", x.when(1), -1);
        x.saying(0);
        c.due("eleven nights on which nobody goes, but something is struck", x.when(1), 12);
        c.due("one on which somebody goes", x.when(0), 13);
        for (int i = 0; i < 11; i++) {
            int before = x.worlds();
            c.due("nobody on night " + i, x.night(), 0);
            c.due("one is struck", before - x.worlds(), 1);
        }
        c.due("b", x.night(), 0b10);
        c.due("a", x.night(), 0b01);
        c.due("one world is left", x.worlds(), 1);
    }

    static void terms3FewestBeforeLeast(Checks c) {
        NinetyNights x = Checks.on("one a marked;one b marked;saying has a;saying has b;saying marks = 2;");
        c.due("one of a higher number, not two of lower ones", x.fewest(0b11, 1), 0b100);
    }

    static void terms3OfLikeOnesTheLeastSet(Checks c) {
        NinetyNights x = Checks.on("one a marked;one b marked;saying 1;saying has a;saying has a and has b;"
                + "saying has a;saying marks = 2;");
        c.due("one", x.fewest(0b01, 1), 0b00010);
        c.due("both", x.fewest(0b11, 1), 0b00100);
        x = Checks.on("one a marked;one b marked;one d;saying has a;saying 1;saying has b;saying has a;saying has b;");
        c.due("two", x.fewest(0b11, 1), 0b00101);
    }

    static void terms3TheLeastNumberIsSaidFirst(Checks c) {
        String some = "saying marks;";
        String not = "saying not knows a(has a);";
        NinetyNights x = Checks.on("one a marked;one b marked;" + some + not);
        c.due("a did not know behind the first", x.fewest(0b10, 1), 0b11);
        x = Checks.on("one a marked;one b marked;" + not + some);
        c.due("ahead of it that told nothing", x.fewest(0b10, 1), -1);
    }

    static void terms3EachMustBeSoAsItIsSaid(Checks c) {
        NinetyNights x = Checks.on("one a marked;one b;one d marked;saying has b;saying has a;"
                + "saying not knows a(has a) and has d;");
        c.due("not so at all", x.fewest(0b010, 1), -1);
        c.due("not so behind the other", x.fewest(0b101, 1), -1);
        c.due("so by itself", x.fewest(0b100, 1), 0b100);
        x = Checks.on("one a marked;one b;one d marked;saying has a;saying knows a(has a) and has d;");
        c.due("so only behind the other", x.fewest(0b101, 1), 0b11);
        c.due("not so at first", x.fewest(0b100, 1), -1);
    }

    static void terms3JustThoseGo(Checks c) {
        NinetyNights x = Checks.on("one a marked;one b marked;one d marked mirror;saying has a;saying has b;");
        c.due("with d, who goes anyway", x.fewest(0b101, 1), 0b01);
        c.due("not without him", x.fewest(0b001, 1), -1);
        c.due("nobody can't be", x.fewest(0b000, 1), -1);
        c.due("d alone", x.fewest(0b100, 12), 0);
        x.night();
        c.due("who is gone does not go", x.fewest(0b101, 1), -1);
        c.due("but another", x.fewest(0b001, 1), 0b01);
        c.due("and now nobody can be", x.fewest(0b000, 1), 0);
    }

    static void terms3InTheNextNights(Checks c) {
        NinetyNights x = Checks.on(Islands.STEPS);
        c.due("nobody", x.fewest(0, 12), 0);
        c.due("not yet", x.fewest(0b10, 11), -1);
        c.due("on the twelfth", x.fewest(0b10, 12), 1);
        c.due("the other on the thirteenth", x.fewest(0b11, 12), -1);
        x.saying(0);
        c.due("not yet", x.fewest(0, 11), 0);
        c.due("on the twelfth", x.fewest(0, 12), -1);
        c.due("on the twelfth", x.fewest(0b10, 12), 0);
        x.night();
        c.due("from now on", x.fewest(0b11, 12), 0);
        c.due("from now on", x.fewest(0b10, 11), 0);
        c.due("from now on", x.fewest(0b10, 10), -1);
    }

    // ---- 4: sights

    static void terms4ASightCountsFromTheTimeItWasTold(Checks c) {
        NinetyNights x = Checks.on(Islands.THREE);
        x.later(5);
        x.sight(0, 1, true);
        x.later(5);
        c.due("before", x.fits(4), 19);
        c.due("then", x.fits(5), 5);
        c.due("behind it", x.fits(6), 5);
    }

    static void terms4UntilTheTimeItWasUntold(Checks c) {
        NinetyNights x = Checks.on(Islands.THREE);
        x.later(5);
        x.sight(0, 1, true);
        x.later(5);
        x.untell(0);
        x.later(5);
        c.due("before it was told", x.fits(4), 19);
        c.due("when it was told", x.fits(5), 5);
        c.due("before it was untold", x.fits(9), 5);
        c.due("when it was untold", x.fits(10), 19);
        c.due("behind it", x.fits(11), 19);
    }

    static void terms4UntoldAtTheSameTimeItNeverCounts(Checks c) {
        NinetyNights x = Checks.on(Islands.THREE);
        x.later(5);
        x.sight(0, 1, true);
        c.due("untold", bit(x.untell(0)), 1);
        x.later(1);
        for (int k = 4; k <= 7; k++) {
            c.due("as known at " + k, x.fits(k), 19);
        }
    }

    static void terms4TheIslandIsAsAtFirst(Checks c) {
        NinetyNights x = Checks.on(Islands.THREE);
        Checks.say(x, "marks = 2");
        x.night();
        Checks.whisper(x, "1", 7);
        c.due("all", x.fits(0), 19);
        x.sight(0, 1, true);
        c.due("as if nothing was", x.fits(0), 5);
        x = Checks.on("one a marked;one b;saying not gone a;saying gone a;saying knows b(has b);");
        Checks.say(x, "has a");
        x.night();
        c.due("nobody is gone at first, nobody knows", x.fits(0), 8);
    }

    static void terms4NobodyTellsWhoIsMarked(Checks c) {
        for (int marked = 0; marked < 4; marked++) {
            NinetyNights x = Checks.on("one a" + ((marked & 1) != 0 ? " marked" : "") + ";one b"
                    + ((marked & 2) != 0 ? " marked" : "") + ";saying has a;");
            c.due("world " + marked, x.fits(0), 6);
            c.due("world " + marked, x.sure(0, 0), -2);
            x.sight(0, 1, true);
            c.due("world " + marked, x.sure(0, 0), 1);
            c.due("world " + marked, x.sure(1, 0), -2);
        }
    }

    static void terms4OneWentOnTheNightOrDidNot(Checks c) {
        NinetyNights x = Checks.on("one a;one b;saying marks;");
        c.due("all", x.fits(0), 7);
        x.sight(0, 1, false);
        c.due("not with his mark alone", x.fits(0), 6);
        x.sight(0, 2, true);
        c.due("both have one", x.fits(0), 1);
        x.sight(0, 3, true);
        c.due("nobody goes twice", x.fits(0), 0);
    }

    static void terms4NightsOfSightsAreOneToTwelve(Checks c) {
        NinetyNights x = Checks.on(Islands.STEPS);
        c.due("all", x.fits(0), 64 + 16);
        x.sight(1, 12, true);
        c.due("a's number is 5, b's 5 or 6", x.fits(0), 2);
        c.due("b's lowest bit", x.sure(1, 0), -2);
        c.due("a's lowest bit", x.sure(0, 0), 1);
        x.later(1);
        x.sight(0, 11, true);
        c.due("both are 5", x.fits(1), 1);
        c.due("b's lowest bit", x.sure(1, 1), 1);
        x.untell(1);
        x.later(1);
        x.sight(0, 11, false);
        c.due("b's is 6", x.fits(2), 1);
        c.due("b's lowest bit", x.sure(1, 2), 0);
        x.later(1);
        x.sight(0, 12, true);
        c.due("not on the twelfth", x.fits(3), 0);
    }

    static void terms4NothingOrOneSayingWasSaid(Checks c) {
        NinetyNights x = Checks.on("one a;one b;saying has a;saying has b;");
        c.due("nothing, the one, the other", x.fits(0), 4 + 2 + 2);
        x.sight(0, 1, true);
        c.due("the one", x.fits(0), 2);
        x.sight(1, 1, true);
        c.due("never both", x.fits(0), 0);
    }

    static void terms4ASayingMustBeSoAtFirst(Checks c) {
        NinetyNights x = Checks.on("one a;one b;saying 0;saying marks = 2;saying knows a(has a);saying not knows a(has a);");
        c.due("no world, one, no world, all", x.fits(0), 4 + 0 + 1 + 0 + 4);
    }

    static void terms4SureIsWhatMarkHeHasInAllThatFit(Checks c) {
        NinetyNights x = Checks.on("one a;one b;one d;saying has a and not has b;");
        x.sight(0, 1, true);
        c.due("a has one", x.sure(0, 0), 1);
        c.due("b has none", x.sure(1, 0), 0);
        c.due("d can have one or not", x.sure(2, 0), -2);
        x = Checks.on("one a;one b;saying has b and not has a;");
        x.sight(1, 1, true);
        c.due("a has none", x.sure(0, 0), 0);
        c.due("b has one", x.sure(1, 0), 1);
    }

    static void terms4SpentWithMoreThanSixPeople(Checks c) {
        for (int people = 1; people <= 8; people++) {
            NinetyNights x = Checks.on(Islands.EIGHT.substring(0, 6 * people));
            c.due("fits with " + people, x.fits(0), people > 6 ? -2 : 1 << people);
            c.due("sure with " + people, x.sure(0, 0), people > 6 ? -3 : -2);
        }
    }
}
