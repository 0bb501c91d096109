/** Each promise by its number: ordinary calls, the edges that the document names, wrong ones. */
public final class PromiseTest {
    private static final Checks CHECKS = new Checks();
    private static final String THREE = Islands.THREE;
    private static final String CHILDREN =
            "one a marked;one b marked;one c marked;one d marked;one e marked;one f;one g;one h;";

    public static void main(String[] args) {
        newObject();
        feedAndEnd();
        island();
        fault();
        sees();
        worldsAndPossible();
        like();
        own();
        ask();
        holds();
        deep();
        say();
        saying();
        whisper();
        night();
        gone();
        when();
        fewest();
        sightAndUntell();
        later();
        fits();
        sure();
        imageAndBack();
        about();
        CHECKS.finish();
    }

    private static void due(String what, long got, long want) {
        CHECKS.due(what, got, want);
    }

    private static void newObject() {
        NinetyNights x = new NinetyNights();
        for (int what = 0; what <= 8; what++) {
            due("1 about " + what, x.about(what), 0);
        }
        due("1 worlds", x.worlds(), 1);
        due("1 gone", x.gone(), 0);
        due("1 saying", x.saying(0), -1);
        due("1 back", x.back(0), -1);
        due("1 fewest", x.fewest(0, 1), 0);
        due("1 all of nobody", Checks.ask(x, "all(0)"), 1);
        due("1 common of nobody", Checks.ask(x, "common(0)"), 0);
        due("1 common of nobody", Checks.ask(x, "common(1)"), 1);
        due("1 deep of nobody", Checks.deep(x, "0"), -1);
        due("1 whisper to nobody", Checks.whisper(x, "1", 0), 1);
        due("1 whisper to none such", Checks.whisper(x, "1", 1), -1);
    }

    private static void feedAndEnd() {
        NinetyNights x = new NinetyNights();
        due("2 feed", x.feed(0x31202020, 0x20202020, 0x20202020, 0x20202020, 0x2020202b), 20);
        due("2 feed", x.feed(0x32202020, 0x20202020, 0x2020202a, 0x0a202020, 0x20202033), 40);
        due("2 tape", x.about(7), 40);
        due("2 as told", x.ask(), 7);
        due("3 end of nothing", x.end(0), 0);
        due("3 end too far", x.end(1), -1);
        for (int i = 1; i <= 80; i++) {
            due("2 feed " + i, x.feed(0x20202020, 0x20202020, 0x20202020, 0x20202020, 0x20202020), 20 * i);
        }
        due("2 too many", x.feed(1, 2, 3, 4, 5), -1);
        due("2 nothing came", x.about(7), 1600);
        due("3 end below 0", x.end(-1), -1);
        due("3 end", x.end(1600), 1600);
        due("3 end", x.end(1601), -1);
        due("3 end", x.end(1581), 1581);
        due("2 still too many", x.feed(1, 2, 3, 4, 5), -1);
        due("3 end", x.end(1580), 1580);
        due("2 just enough", x.feed(0x31313131, 0x20202020, 0x20202020, 0x20202020, 0x20202020), 1600);
        due("2 as told", x.ask(), 1111);
        x.feed(-1, 0, Integer.MIN_VALUE, Integer.MAX_VALUE, 0x30303030);
        due("2 bytes that are no tokens", x.ask(), NinetyNights.GAP);
        due("2 bytes that are no tokens", x.fault(0), 1);
        Checks.feed(x, "12");
        due("3 end", x.end(1), 1);
        due("3 the first bytes are left", x.ask(), 1);
    }

    private static void island() {
        NinetyNights x = Checks.on(THREE);
        x.saying(0);
        x.night();
        x.night();
        Checks.whisper(x, "has ann", 7);
        x.image(0);
        x.sight(0, 1, true);
        x.later(5);
        due("4 a fault", Checks.island(x, "one x;one x;"), -1);
        due("4 gone stays", x.gone(), 3);
        due("4 sights stay", x.about(5), 1);
        due("4 nights stay", x.about(3), 2);
        due("4 box stays", x.back(0), 2);
        due("4 people", Checks.island(x, "one x;one y marked;law own;"), 2);
        due("4 tape is empty", x.about(7), 0);
        due("4 gone", x.gone(), 0);
        due("4 worlds", x.worlds(), 4);
        due("4 nights", x.about(3), 0);
        due("4 whispers", x.about(4), 0);
        due("4 sights", x.about(5), 0);
        due("4 time", x.about(6), 5);
        due("4 boxes", x.back(0), -1);
        due("4 sayings", x.about(1), 0);
        due("4 true", x.about(2), 2);
        due("4 no such sight", x.untell(0) ? 1 : 0, 0);
        due("4 names", Checks.ask(x, "has ann"), NinetyNights.GAP);
        due("4 the empty text", x.island(), 0);
        due("4 worlds", x.worlds(), 1);
    }

    private static void fault() {
        NinetyNights x = new NinetyNights();
        Checks.island(x, "one a;blind a b;");
        due("5 fault", x.fault(0), 4);
        due("5 place", x.fault(1), 14);
        x.worlds();
        x.night();
        due("5 fault stays", x.fault(0), 4);
        x.island();
        due("5 fault goes", x.fault(0), 0);
        due("5 place goes", x.fault(1), -1);
        due("5 another", x.fault(2), -1);
    }

    private static void sees() {
        NinetyNights x = Checks.on("one a;one b mirror;one c;one d;blind b c;blind a d;blind d a;blind d b;");
        due("6 a", x.sees(0), 0b0110);
        due("6 b", x.sees(1), 0b1011);
        due("6 c", x.sees(2), 0b1011);
        due("6 d", x.sees(3), 0b0100);
        due("6 none such", x.sees(4), -1);
        due("6 none such", x.sees(-1), -1);
        due("6 none such", x.sees(Integer.MAX_VALUE), -1);
    }

    private static void worldsAndPossible() {
        NinetyNights x = Checks.on(THREE);
        due("7 all", x.worlds(), 8);
        due("8 all", x.possible(0), 1);
        Checks.say(x, "marks > 1");
        due("7 left", x.worlds(), 4);
        int[] left = {0, 0, 0, 1, 0, 1, 1, 1};
        for (int world = 0; world < 8; world++) {
            due("8 world " + world, x.possible(world), left[world]);
        }
        due("8 none such", x.possible(8), -1);
        due("8 none such", x.possible(-1), -1);
        due("7 many", Checks.on(CHILDREN).worlds(), 256);
        due("8 the last", Checks.on(CHILDREN).possible(255), 1);
        due("8 none such", Checks.on(CHILDREN).possible(256), -1);
    }

    private static void like() {
        NinetyNights x = Checks.on("one a;one b mirror;one c marked;blind a c;");
        due("9 unseen", x.like(0, 0b000, 0b101), 1);
        due("9 seen", x.like(0, 0b000, 0b010), 0);
        due("9 mirror", x.like(1, 0b000, 0b010), 0);
        due("9 itself", x.like(1, 5, 5), 1);
        due("9 own mark", x.like(2, 0b000, 0b100), 1);
        due("9 none such", x.like(3, 0, 0), -1);
        due("9 none such", x.like(-1, 0, 0), -1);
        due("9 none such", x.like(0, -1, 0), -1);
        due("9 none such", x.like(0, 0, 8), -1);
        due("9 none such", x.like(0, 8, 0), -1);
        Checks.whisper(x, "has c", 1);
        due("9 whispered", x.like(0, 0b000, 0b101), 0);
        due("9 whispered, so in both", x.like(0, 0b100, 0b101), 1);
        due("9 not whispered to him", x.like(2, 0b000, 0b100), 1);
        Checks.say(x, "has c");
        due("9 struck", x.like(0, 0, 1), -1);
        due("9 struck", x.like(0, 0, 0), -1);
        due("9 one of them struck", x.like(0, 4, 0), -1);
        due("9 one of them struck", x.like(0, 0, 4), -1);
        due("9 left", x.like(0, 4, 5), 1);
    }

    private static void own() {
        NinetyNights x = Checks.on("one a marked mirror;one b;one c mirror;");
        due("10 has", x.own(0), 1);
        due("10 nothing", x.own(1), -2);
        due("10 has none", x.own(2), 0);
        due("10 none such", x.own(3), -1);
        due("10 none such", x.own(-1), -1);
        Checks.say(x, "not has b");
        due("10 has none", x.own(1), 0);
    }

    private static void ask() {
        NinetyNights x = Checks.on(THREE);
        due("11 marks", Checks.ask(x, "marks * 10 + has ann - has cy"), 21);
        due("11 wraps", Checks.ask(x, "9999 * 9999 * 9999"), 9999 * 9999 * 9999);
        due("11 cut", Checks.ask(x, "(0 - 7) / 2"), -3);
        due("11 by 0", Checks.ask(x, "7 / (1 - 1)"), 0);
        due("11 least by -1", Checks.ask(x, "(0 - 2048 * 1024 * 1024) / (0 - 1)"), -2048 * 1024 * 1024);
        due("11 the gap itself", Checks.ask(x, "0 - 1000 * 1000"), NinetyNights.GAP);
        due("11 is no fault", x.fault(0), 0);
        due("11 knows", Checks.ask(x, "knows ann (has ben)"), 1);
        due("11 knows not", Checks.ask(x, "knows ann (has ann) or knows ann (not has ann)"), 0);
        due("11 what is not 0", Checks.ask(x, "knows ann (has ben * 7)"), 1);
        due("11 all", Checks.ask(x, "all (marks > 0)"), 1);
        due("11 not all", Checks.ask(x, "all (marks > 1)"), 0);
        due("11 all know all know", Checks.ask(x, "all (all (marks > 0))"), 0);
        due("11 gone", Checks.ask(x, "gone ann + gone cy"), 0);
        due("11 common", Checks.ask(x, "common (marks > 0)"), 0);
        due("11 common", Checks.ask(x, "common (knows ann (has ben) = has ben)"), 1);
        due("11 relations", Checks.ask(x, "(1 < 2) + (2 < 1) * 10 + (2 > 1) * 100 + (2 = 2) * 1000"), 1101);
        due("11 a fault", Checks.ask(x, "has"), NinetyNights.GAP);
        due("11 the tape is empty", x.about(7), 0);
    }

    private static void holds() {
        NinetyNights x = Checks.on(THREE);
        due("12 some", Checks.holds(x, "marks > 1"), 4);
        due("12 not 0", Checks.holds(x, "marks - 1"), 5);
        due("12 all", Checks.holds(x, "1"), 8);
        due("12 none", Checks.holds(x, "knows ann (has ann)"), 0);
        Checks.say(x, "marks > 1");
        due("12 of those left", Checks.holds(x, "marks > 1"), 4);
        due("12 of those left", Checks.holds(x, "knows ann (has ann)"), 2);
        due("12 a fault", Checks.holds(x, "("), -1);
        due("12 the tape is empty", x.about(7), 0);
    }

    private static void deep() {
        NinetyNights x = Checks.on(CHILDREN);
        due("13 not so", Checks.deep(x, "has h"), -1);
        for (int k = 0; k < 5; k++) {
            due("13 more than " + k, Checks.deep(x, "marks > " + k), 4 - k);
        }
        due("13 in common", Checks.deep(x, "marks < 9"), 99);
        due("13 not known", Checks.deep(x, "has a"), 0);
        Checks.say(x, "marks > 3");
        due("13 said", Checks.deep(x, "marks > 3"), 99);
        due("13 said", Checks.deep(x, "marks > 4"), 0);
        due("13 a fault", Checks.deep(x, "marks >"), NinetyNights.GAP);
        due("13 the tape is empty", x.about(7), 0);
    }

    private static void say() {
        NinetyNights x = Checks.on(THREE);
        due("14 not so", Checks.say(x, "has cy"), -1);
        due("14 nothing done", x.worlds(), 8);
        due("14 is no fault", x.fault(0), 0);
        due("14 a fault", Checks.say(x, "has cy ann"), -1);
        due("14 a fault", x.fault(1), 7);
        due("14 struck", Checks.say(x, "marks"), 1);
        due("14 none struck", Checks.say(x, "marks"), 0);
        due("14 what was so", Checks.say(x, "not knows ann (has ann)"), 1);
        due("14 what was so", x.possible(0b001), 0);
        due("14 not so behind it", Checks.say(x, "knows cy (marks = 3)"), -1);
        due("14 the tape is empty", x.about(7), 0);
    }

    private static void saying() {
        NinetyNights x = Checks.on("one a marked;one b;saying marks;saying has b;saying marks = 1;");
        due("15 none such", x.saying(3), -1);
        due("15 none such", x.saying(-1), -1);
        due("15 not so", x.saying(1), -1);
        due("15 struck", x.saying(2), 2);
        due("15 none struck", x.saying(0), 0);
        due("15 left", x.worlds(), 2);
        Checks.feed(x, "1");
        x.saying(0);
        due("15 the tape stays", x.about(7), 1);
    }

    private static void whisper() {
        NinetyNights x = Checks.on("one a marked;one b marked;one c;");
        due("16 so", Checks.whisper(x, "has a", 0b101), 1);
        due("16 not so", Checks.whisper(x, "has c", 0b010), 0);
        due("16 struck nothing", x.worlds(), 8);
        due("16 he knows", x.own(0), 1);
        due("16 not he", x.own(1), -2);
        due("16 all see", Checks.ask(x, "knows b (knows a (has a))"), 1);
        due("16 what others know", Checks.ask(x, "knows a (knows b (has c) or knows b (not has c))"), 1);
        due("16 none such", Checks.whisper(x, "has a", 8), -1);
        due("16 none such", Checks.whisper(x, "has a", -1), -1);
        due("16 a fault", Checks.whisper(x, "has", 1), -1);
        due("16 whispers", x.about(4), 2);
        due("16 the tape is empty", x.about(7), 0);
        due("16 to nobody", Checks.whisper(x, "has a", 0), 1);
        for (int i = 3; i < 8; i++) {
            due("16 whisper " + i, Checks.whisper(x, "1", 1), 1);
        }
        due("16 there were eight", Checks.whisper(x, "has b", 2), -1);
        due("16 the tape is empty", x.about(7), 0);
        due("16 nothing heard", x.own(1), -2);
        due("16 whispers", x.about(4), 8);
        whisperedThen();
    }

    /** What was whispered is weighed by what was possible then, not later. */
    private static void whisperedThen() {
        NinetyNights x = Checks.on("one a marked;one b;one c;");
        due("16 not so then", Checks.whisper(x, "knows a (has a)", 0b010), 0);
        Checks.say(x, "marks");
        due("16 so now", Checks.ask(x, "knows a (has a)"), 1);
        due("16 alike", x.like(1, 0b001, 0b011), 1);
        Checks.whisper(x, "knows a (has a)", 0b010);
        due("16 no more alike", x.like(1, 0b001, 0b011), 0);
        due("16 he knows", x.own(1), 0);
        due("16 not he", x.own(2), -2);
    }

    private static void night() {
        NinetyNights x = Checks.on(CHILDREN);
        due("17 nobody", x.night(), 0);
        due("17 nothing struck", x.worlds(), 256);
        Checks.say(x, "marks > 0");
        int[] left = {255 - 8, 255 - 8 - 28, 255 - 8 - 28 - 56, 255 - 8 - 28 - 56 - 70};
        for (int i = 0; i < 4; i++) {
            due("17 nobody", x.night(), 0);
            due("17 struck", x.worlds(), left[i]);
        }
        due("17 the five", x.night(), 31);
        due("17 one left", x.worlds(), 1);
        due("17 by the law has", x.night(), 0);
        for (int i = 7; i < 300; i++) {
            due("17 night " + i, x.night(), 0);
        }
        due("17 there were 300", x.night(), -1);
        due("17 there were 300", x.about(3), 300);
        nightKinds();
    }

    private static void nightKinds() {
        NinetyNights x = Checks.on("one a marked mirror stays;one b marked mirror;one c mirror;one d;");
        due("17 b alone", x.night(), 0b0010);
        due("17 b's mark is seen, and that c has none", x.worlds(), 4);
        due("17 he is gone", x.night(), 0);
        x = Checks.on("one a marked mirror stays;one b marked mirror;one c mirror;one d;law own;");
        due("17 law own", x.night(), 0b0110);
        due("17 all with a mirror would", x.worlds(), 16);
        x = Checks.on("one a marked mirror;one b;blind b a;");
        due("17 a goes", x.night(), 1);
        due("17 b learns it", Checks.ask(x, "knows b (has a)"), 1);
    }

    private static void gone() {
        NinetyNights x = Checks.on("one a marked mirror;one b marked;one c mirror;");
        due("18 nobody", x.gone(), 0);
        x.night();
        due("18 a", x.gone(), 1);
        due("18 by a formula", Checks.ask(x, "gone a * 10 + gone b"), 10);
        due("18 the same in all", Checks.holds(x, "gone a"), 2);
        Checks.say(x, "has b");
        x.night();
        due("18 both", x.gone(), 3);
    }

    private static void when() {
        NinetyNights x = Checks.on(CHILDREN);
        due("19 never", x.when(0), -1);
        Checks.say(x, "marks > 0");
        for (int one = 0; one < 8; one++) {
            due("19 one " + one, x.when(one), one < 5 ? 5 : -1);
        }
        due("19 none such", x.when(8), -1);
        due("19 none such", x.when(-1), -1);
        due("19 nothing done", x.worlds(), 255);
        due("19 nothing done", x.about(3), 0);
        x.night();
        due("19 from now on", x.when(4), 4);
        for (int i = 0; i < 4; i++) {
            x.night();
        }
        due("19 gone", x.when(4), -1);
        x = Checks.on("one a marked;one b;law own;saying marks > 0;");
        x.saying(0);
        due("19 law own", x.when(0), 1);
        due("19 law own", x.when(1), 2);
        x = Checks.on("one a marked stays;one b marked;saying marks > 0;");
        x.saying(0);
        due("19 stays", x.when(0), -1);
        x = Checks.on("one a marked mirror;one b;one c marked;");
        due("19 not struck, but one goes", x.when(0), 1);
    }

    private static void fewest() {
        NinetyNights x = Checks.on("one a marked;one b marked;one c;"
                + "saying has b;saying marks > 0;saying has a;saying has c;saying not knows a (has a);");
        due("20 nobody", x.fewest(0, 12), 0);
        due("20 both, two nights", x.fewest(3, 2), 0b00010);
        due("20 both, one night", x.fewest(3, 1), 0b00101);
        due("20 a", x.fewest(1, 1), 0b00100);
        due("20 b", x.fewest(2, 12), 0b00001);
        due("20 never c", x.fewest(4, 12), -1);
        due("20 all but one can't", x.fewest(7, 12), -1);
        due("20 none such", x.fewest(8, 1), -1);
        due("20 none such", x.fewest(-1, 1), -1);
        due("20 no nights", x.fewest(0, 0), -1);
        due("20 too many nights", x.fewest(0, 13), -1);
        due("20 nothing done", x.worlds(), 8);
        x.saying(0);
        due("20 from now on", x.fewest(3, 1), 0b00100);
        x.night();
        due("20 b is gone", x.fewest(2, 1), -1);
        due("20 b is gone", x.fewest(1, 1), 0b00100);
        fewestInOrder();
    }

    /** The least number is said first: what is so only before another was said can't follow it. */
    private static void fewestInOrder() {
        NinetyNights x = Checks.on("one a marked;one b;saying marks;saying not knows a (has a);");
        due("20 said first, the second is not so", x.fewest(1, 12), 1);
        x = Checks.on("one a marked;one b marked;saying not knows a (has a);saying marks;");
        due("20 the first is empty", x.fewest(3, 2), 2);
        x = Checks.on("one a marked;one b marked;saying marks;saying not knows a (has a);");
        due("20 b knows at once", x.fewest(2, 1), 3);
        x = Checks.on("one a marked;one b marked;saying not knows a (has a);saying marks;");
        due("20 too early", x.fewest(2, 1), -1);
        x = Checks.on("one a marked;one b;saying marks = 1;saying has a or has b;saying has a;");
        due("20 of like ones the least", x.fewest(1, 1), 1);
        x = Checks.on("one a marked;one b;law own;saying marks > 0;");
        due("20 on two nights", x.fewest(3, 2), 1);
        due("20 not yet the other", x.fewest(1, 1), 1);
        due("20 the other, too", x.fewest(1, 2), -1);
    }

    private static void sightAndUntell() {
        NinetyNights x = Checks.on(THREE);
        due("21 none such", x.sight(3, 1, true), -1);
        due("21 none such", x.sight(-1, 1, false), -1);
        due("21 no night", x.sight(0, 0, true), -1);
        due("21 no night", x.sight(0, 13, true), -1);
        for (int i = 0; i < 20; i++) {
            due("21 sight " + i, x.sight(i % 3, 1 + i % 12, i % 2 == 0), i);
        }
        due("21 there are 20", x.sight(0, 1, true), -1);
        due("22 none such", x.untell(20) ? 1 : 0, 0);
        due("22 none such", x.untell(-1) ? 1 : 0, 0);
        due("22 untold", x.untell(19) ? 1 : 0, 1);
        due("22 so already", x.untell(19) ? 1 : 0, 0);
        due("21 there still are 20", x.sight(0, 1, true), -1);
        due("21 sights", x.about(5), 20);
    }

    private static void later() {
        NinetyNights x = new NinetyNights();
        due("23 none", x.later(0), 0);
        due("23 below", x.later(-1), -1);
        due("23 above", x.later(1001), -1);
        due("23 above", x.later(Integer.MAX_VALUE), -1);
        for (int i = 1; i <= 99; i++) {
            due("23 later", x.later(1000), 1000 * i);
        }
        due("23 later", x.later(999), 99999);
        due("23 too late", x.later(2), -1);
        due("23 just", x.later(1), 100000);
        due("23 too late", x.later(1), -1);
        due("23 now", x.later(0), 100000);
        due("23 time", x.about(6), 100000);
    }

    private static void fits() {
        NinetyNights x = Checks.on(THREE);
        due("24 all", x.fits(0), 8 + 7 + 4);
        due("24 one went", x.sight(1, 2, true), 0);
        due("24 by marks", x.fits(0), 2);
        x.later(3);
        due("24 another did not", x.sight(0, 2, false), 1);
        due("24 later", x.fits(3), 1);
        due("24 as known then", x.fits(2), 2);
        due("24 before all", x.fits(-1), 19);
        due("24 far on", x.fits(Integer.MAX_VALUE), 1);
        x.later(1);
        x.untell(0);
        due("24 untold", x.fits(4), 19 - 2);
        due("24 not yet untold", x.fits(3), 1);
        x.saying(0);
        x.night();
        Checks.whisper(x, "has cy", 1);
        due("24 as at first", x.fits(3), 1);
        due("24 spent", Checks.on("one a;one b;one c;one d;one e;one f;one g;").fits(0), -2);
        due("24 six", Checks.on("one a;one b;one c;one d;one e;one f;saying 1;").fits(0), 128);
        x = Checks.on("one a;one b;law own;saying marks = 1;");
        x.sight(0, 1, true);
        x.sight(1, 1, true);
        due("24 law own", x.fits(0), 2);
    }

    private static void sure() {
        NinetyNights x = Checks.on(THREE);
        due("25 both can be", x.sure(0, 0), -2);
        due("25 none such", x.sure(3, 0), -1);
        due("25 none such", x.sure(-1, 0), -1);
        x.sight(1, 2, true);
        due("25 b", x.sure(1, 0), 1);
        due("25 a", x.sure(0, 0), -2);
        x.later(3);
        x.sight(0, 2, false);
        due("25 a", x.sure(0, 3), 0);
        due("25 c", x.sure(2, 3), 1);
        due("25 a then", x.sure(0, 2), -2);
        NinetyNights y = Checks.on(THREE);
        y.sight(0, 1, true);
        due("25 the first has", y.sure(0, 0), 1);
        y = Checks.on("one a;one b;saying marks = 1 and has b;");
        y.sight(1, 1, true);
        due("25 the first has none", y.sure(0, 0), 0);
        x.later(1);
        x.sight(1, 3, true);
        due("25 none fits", x.sure(1, 4), -1);
        due("25 as known then", x.sure(1, 3), 1);
        NinetyNights seven = Checks.on("one a;one b;one c;one d;one e;one f;one g;");
        due("25 spent", seven.sure(6, 0), -3);
        due("25 none such", seven.sure(7, 0), -1);
    }

    private static void imageAndBack() {
        NinetyNights x = Checks.on(THREE);
        due("26 none such", x.image(3), -1);
        due("26 none such", x.image(-1), -1);
        due("27 none such", x.back(3), -1);
        due("27 none such", x.back(-1), -1);
        due("27 nothing was", x.back(2), -1);
        due("26 at first", x.image(0), 0);
        Checks.whisper(x, "has ann", 2);
        x.saying(0);
        x.night();
        due("26 then", x.image(2), 1);
        x.night();
        Checks.whisper(x, "has ben", 4);
        due("27 back", x.back(2), 1);
        due("27 worlds", x.worlds(), 4);
        due("27 gone", x.gone(), 0);
        due("27 whispers", x.about(4), 1);
        due("27 nights", x.about(3), 1);
        due("27 gone on from", x.night(), 3);
        due("27 at first", x.back(0), 0);
        due("27 worlds", x.worlds(), 8);
        due("27 what was whispered", x.like(1, 0b000, 0b010), 1);
        Checks.whisper(x, "has ben", 2);
        due("27 another whisper", x.like(1, 0b000, 0b010), 0);
        due("27 again", x.back(2), 1);
        due("27 again", x.night(), 3);
        due("27 the other's whisper is none", x.back(0), 0);
        due("27 the other's whisper is none", x.like(1, 0b000, 0b010), 1);
        due("27 whispers", x.about(4), 0);
        due("26 kept anew", x.image(2), 0);
        due("27 kept anew", x.back(2), 0);
        due("27 still none", x.back(1), -1);
    }

    private static void about() {
        NinetyNights x = Checks.on(THREE + "law own;");
        x.night();
        Checks.whisper(x, "1", 1);
        Checks.whisper(x, "1", 1);
        x.sight(0, 1, true);
        x.sight(0, 1, true);
        x.sight(0, 1, true);
        x.later(77);
        Checks.feed(x, "has ann");
        int[] due = {3, 2, 3, 1, 2, 3, 77, 7, 3};
        for (int what = 0; what < due.length; what++) {
            due("28 about " + what, x.about(what), due[what]);
        }
        due("28 another", x.about(9), -1);
        due("28 another", x.about(-1), -1);
    }
}
