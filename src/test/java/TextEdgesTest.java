/**
 * The first part of the document's terms, a sentence each: tokens, lines, counts, faults and their
 * places (promises 4 and 5 lean on them for islands, 11 to 14 and 16 for formulas).
 */
public final class TextEdgesTest {
    private static final String TWO = "one a;one b;";
    private static final String EIGHT = "one a;one b;one c;one d;one e;one f;one g;one h;";
    private static final String[] WORDS = {"one", "marked", "mirror", "stays", "blind", "law", "has", "own",
        "saying", "or", "and", "not", "marks", "gone", "knows", "all", "common"};

    public static void main(String[] args) throws ReflectiveOperationException {
        Sentences.run(TextEdgesTest.class);
    }

    private static String ones(int units) {
        return "1" + "+1".repeat(units - 1);
    }

    private static String padded(String front, String back, int length) {
        return front + " ".repeat(length - front.length() - back.length()) + back;
    }

    // ---- tokens

    static void terms1AnIslandHas1600BytesAtMost(Checks c) {
        c.good(padded("one a;", "one b;", 1600), 2);
        c.bad(padded("one a;", "one b", 1600), 2, 1600);
        c.bad(padded("one a;", "$", 1600), 1, 1599);
        c.bad(";".repeat(1600), 2, 0);
        c.bad("saying " + "(".repeat(1593), 2, 14);
        c.bad("a".repeat(1600), 1, 0);
        c.badFormula("1".repeat(1600), 1, 0);
        c.badFormula("1" + ")".repeat(1599), 2, 1);
    }

    static void terms1WordsHaveOneToEightLetters(Checks c) {
        c.good("one a;", 1);
        c.good("one abcdefgh;", 1);
        c.bad("one abcdefghi;", 1, 4);
        c.bad("one abcdefghabcdefgh;", 1, 4);
        c.badFormula("has abcdefgh", 4, 4);
        c.badFormula("has abcdefghi", 1, 4);
        c.badFormula("1 or commonnot", 1, 5);
        c.bad("one abcdefgh;one abcdefgh;", 3, 17);
        c.good("one abcdefgh;one abcdefgi;one bbcdefgh;one abcdefg;", 4);
    }

    static void terms1LettersAreAToZ(Checks c) {
        c.good("one abcdefgh;one ijklmnop;one qrstuvwx;one yz;", 4);
        c.bad("one `;", 1, 4);
        c.bad("one {;", 1, 4);
        c.bad("one A;", 1, 4);
        c.bad("one Z;", 1, 4);
        c.bad("one a_b;", 1, 5);
        c.bad("ONE a;", 1, 0);
    }

    static void terms1NumbersHaveOneToFourDigits(Checks c) {
        c.goodFormula("0", 0);
        c.goodFormula("9", 9);
        c.goodFormula("1234", 1234);
        c.goodFormula("5678", 5678);
        c.goodFormula("9999", 9999);
        c.goodFormula("0000", 0);
        c.goodFormula("0010", 10);
        c.badFormula("10000", 1, 0);
        c.badFormula("00000", 1, 0);
        c.badFormula("1+00001+2", 1, 2);
        c.badFormula("99999999999999999999", 1, 0);
    }

    /** Each of the 256 bytes behind a whole formula: a blank, a token that can't stand there, or none. */
    static void terms1NoOtherByteIsAToken(Checks c) {
        for (int b = 0; b < 256; b++) {
            String text = "1 " + (char) b;
            if (b == ' ' || b == '\n') {
                c.goodFormula(text, 1);
            } else if ("<>=+-*/".indexOf(b) >= 0) {
                c.badFormula(text, 2, 3);
            } else if (b >= 'a' && b <= 'z' || b >= '0' && b <= '9' || b == ';' || b == '(' || b == ')') {
                c.badFormula(text, 2, 2);
            } else {
                c.badFormula(text, 1, 2);
            }
        }
    }

    static void terms1BlanksAre32And10(Checks c) {
        c.good("\n one \n a\n\nmarked ;\n", 1);
        for (char b : new char[] {0, 9, 11, 12, 13, 31, 33, 160}) {
            c.bad("one" + b + "a;", 1, 3);
            c.badFormula("1" + b, 1, 1);
        }
    }

    static void terms1BlanksPartTokensOrNot(Checks c) {
        c.goodFormula("1+2*3-4/2=5 and(1)or not(0)", 1);
        c.goodFormula(" 1 + 2 * 3 - 4 / 2 = 5 and ( 1 ) or not ( 0 ) ", 1);
        c.goodFormula("knows b(has a)and all(knows b(marks))=0", 1);
        c.goodFormula("knows\nb\n(\nhas\na\n)\nand\nall\n(\nknows b ( marks ) ) = 0", 1);
        c.good("one a;one b;blind a b;law own;saying(1);", 2);
        c.good("one a ; one b ; blind a b ; law own ; saying ( 1 ) ; ", 2);
    }

    static void terms1ATokenIsAsLongAsCanBe(Checks c) {
        c.bad("onea;", 2, 0);
        c.bad("on e a;", 2, 0);
        c.bad("lawhas;", 2, 0);
        c.badFormula("hasa", 2, 0);
        c.goodFormula("has a or1", 1);
        c.badFormula("has a orb", 2, 6);
        c.badFormula("notnot 1", 2, 0);
        c.goodFormula("12", 12);
        c.badFormula("1 2", 2, 2);
        NinetyNights x = Checks.on("one amarked;one ones;one orand;one marke;one markedd;");
        c.due("nobody is marked", x.about(2), 0);
        c.due("a word with another in it is a NAME", Checks.ask(x, "has amarked + has ones + gone orand"), 0);
    }

    static void terms1NoLetterStandsDirectlyBehindANumber(Checks c) {
        c.badFormula("1x", 1, 0);
        c.badFormula("1or 1", 1, 0);
        c.badFormula("0+9999and 1", 1, 2);
        c.badFormula("7a", 1, 0);
        c.badFormula("7z", 1, 0);
        c.badFormula("1 x", 2, 2);
        c.goodFormula("1 or 1", 1);
        c.goodFormula("(1)or 1", 1);
        c.badFormula("has a1", 2, 5);
        c.badFormula("has a1b", 1, 5);
        c.bad("one a1;", 2, 5);
        c.bad("one 1a;", 1, 4);
    }

    static void terms1WordsThatStandForThemselvesAreNoNames(Checks c) {
        for (String word : WORDS) {
            c.bad("one " + word + ";", 2, 4);
            c.bad(TWO + "blind " + word + " a;", 2, 18);
            c.bad(TWO + "blind a " + word + ";", 2, 20);
            c.badFormula("has " + word, 2, 4);
            c.badFormula("gone " + word, 2, 5);
            c.badFormula("knows " + word + "(1)", 2, 6);
        }
    }

    static void terms1OtherWordsOfTheGrammarAreNames(Checks c) {
        c.good("one island;one line;one f;one both;one sum;one term;one unit;one n;", 8);
        c.good("one name;one said;one mark;one known;one alls;one on;one laws;one notes;", 8);
    }

    // ---- lines

    static void terms1AnIslandHasAnyNumberOfLines(Checks c) {
        c.good("", 0);
        c.good(" ", 0);
        c.good("\n\n", 0);
        c.good("one a;", 1);
        c.good("law own;", 0);
        c.good("saying 1;", 0);
        c.bad(";", 2, 0);
        c.bad("one a;;", 2, 6);
    }

    static void terms1MarkedMirrorStaysMayBeThereOrNot(Checks c) {
        for (int kind = 0; kind < 8; kind++) {
            boolean marked = (kind & 1) != 0;
            boolean mirror = (kind & 2) != 0;
            boolean stays = (kind & 4) != 0;
            String text = "one a" + (marked ? " marked" : "") + (mirror ? " mirror" : "") + (stays ? " stays" : "");
            NinetyNights x = Checks.on(text + ";law own;");
            c.due(text + ": the TRUE WORLD", x.about(2), marked ? 1 : 0);
            c.due(text + ": sees", x.sees(0), mirror ? 1 : 0);
            c.due(text + ": goes", x.night(), mirror && !stays ? 1 : 0);
        }
    }

    static void terms1MarkedMirrorStaysStandInThisOrder(Checks c) {
        c.bad("one a mirror marked;", 2, 13);
        c.bad("one a stays marked;", 2, 12);
        c.bad("one a stays mirror;", 2, 12);
        c.bad("one a marked marked;", 2, 13);
        c.bad("one a mirror mirror;", 2, 13);
        c.bad("one a stays stays;", 2, 12);
        c.bad("one a marked mirror stays stays;", 2, 26);
        c.bad("one marked a;", 2, 4);
        c.bad("marked one a;", 2, 0);
    }

    static void terms1EachLineEndsWithItsSign(Checks c) {
        c.bad("one a", 2, 5);
        c.bad("one a one b;", 2, 6);
        c.bad("one a marked mirror stays", 2, 25);
        c.bad(TWO + "blind a b", 2, 21);
        c.bad(TWO + "blind a b law has;", 2, 22);
        c.bad("law has", 2, 7);
        c.bad("law own saying 1;", 2, 8);
        c.bad("saying 1", 2, 8);
        c.bad("saying 1 law has;", 2, 9);
    }

    static void terms1EachLineHasItsParts(Checks c) {
        c.bad("one;", 2, 3);
        c.bad("one", 2, 3);
        c.bad("blind;", 2, 5);
        c.bad(TWO + "blind a;", 2, 19);
        c.bad(TWO + "blind a b a;", 2, 22);
        c.bad("law;", 2, 3);
        c.bad("law stays;", 2, 4);
        c.bad("law has own;", 2, 8);
        c.bad("saying;", 2, 6);
        c.bad("saying saying 1;", 2, 7);
    }

    // ---- how many of each sort

    static void terms1EightPeopleAtMost(Checks c) {
        c.good(EIGHT, 8);
        c.bad(EIGHT + "one i;", 2, 48);
        c.bad(EIGHT + "one a;", 2, 48);
        c.bad(EIGHT + "one $;", 2, 48);
        c.bad(EIGHT + "\n one", 2, 50);
    }

    static void terms1PeopleAreNumberedAsTold(Checks c) {
        NinetyNights x = Checks.on("one h marked;one g;one f;one e marked;one d;one c;one b;one a marked;");
        c.due("the TRUE WORLD", x.about(2), 0b10001001);
        c.due("by name", Checks.ask(x, "has h * 1000 + has e * 100 + has a * 10 + has g"), 1110);
    }

    static void terms1PeopleStandAheadOfAllOthers(Checks c) {
        c.bad(TWO + "blind a b;one c;", 2, 22);
        c.bad(TWO + "law has;one c;", 2, 20);
        c.bad(TWO + "saying 1;one c;", 2, 21);
        c.bad("law own;one a;", 2, 8);
        c.bad(TWO + "law own;one a;", 2, 20);
        c.bad(TWO + "law own; one", 2, 21);
    }

    static void terms1OtherLinesStandInAnyOrder(Checks c) {
        NinetyNights x = Checks.on(TWO + "saying 1;blind b a;law own;saying 2;blind a b;saying 3;");
        c.due("SAYINGS", x.about(1), 3);
        c.due("a sees", x.sees(0), 0);
        c.due("b sees", x.sees(1), 0);
    }

    static void terms1TheFirstDoesNotSeeTheSecond(Checks c) {
        NinetyNights x = Checks.on("one a;one b;one c;blind a b;");
        c.due("a", x.sees(0), 0b100);
        c.due("b", x.sees(1), 0b101);
        c.due("c", x.sees(2), 0b011);
    }

    static void terms1BlindIsToldOfTwoUnlikeOnes(Checks c) {
        c.bad("one a;blind a a;", 3, 14);
        c.bad("one a mirror;blind a a;", 3, 21);
        c.bad(TWO + "blind b b", 3, 20);
    }

    static void terms1BlindIsToldOnceEach(Checks c) {
        c.good(TWO + "blind a b;blind b a;", 2);
        c.bad(TWO + "blind a b;blind a b;", 3, 30);
        c.bad(TWO + "blind a b;law own;saying 1;blind b a;blind a b", 3, 57);
    }

    static void terms1ThirtyBlindLinesAtMost(Checks c) {
        StringBuilder text = new StringBuilder(EIGHT);
        int told = 0;
        for (char one = 'h'; one >= 'a'; one--) {
            for (char other = 'a'; other <= 'h' && told < 30; other++) {
                if (one != other) {
                    text.append("blind ").append(one).append(' ').append(other).append(';');
                    told++;
                }
            }
        }
        c.good(text.toString(), 8);
        c.bad(text + "blind a b;", 2, text.length());
        c.bad(text + "blind h a;", 2, text.length());
        c.bad(text + " blind zed zed;", 2, text.length() + 1);
        c.good(text + "law has;saying 1;", 8);
    }

    static void terms1TheLawIsToldOnce(Checks c) {
        c.good("law has;", 0);
        c.good("law own;", 0);
        c.bad("law has;law has;", 2, 8);
        c.bad("law has;law own;", 2, 8);
        c.bad("law own;saying 1;law", 2, 17);
    }

    static void terms1TheLawIsHasIfNoneIsTold(Checks c) {
        String text = "one a mirror;one b marked mirror;";
        c.due("none is told", Checks.on(text).night(), 2);
        c.due("has", Checks.on(text + "law has;").night(), 2);
        c.due("own", Checks.on(text + "law own;").night(), 3);
    }

    static void terms1SixSayingsAtMost(Checks c) {
        c.good("saying 1;".repeat(6), 0);
        c.bad("saying 1;".repeat(7), 2, 54);
        c.bad("saying 1;".repeat(6) + "saying $", 2, 54);
        c.good("saying 1;".repeat(6) + "law own;", 0);
    }

    static void terms1SayingsAreNumberedAsTold(Checks c) {
        NinetyNights x = Checks.on("one a;one b;one c;saying not has a;saying 0;saying marks < 3;saying 1;"
                + "saying 0;saying marks = 0;");
        int[] struck = {4, -1, 1, 0, -1, 7};
        x.image(0);
        for (int i = 0; i < 6; i++) {
            x.back(0);
            c.due("saying " + i, x.saying(i), struck[i]);
        }
    }

    static void terms1SixtyUnitsInAnIsland(Checks c) {
        c.good("saying " + ones(60) + ";", 0);
        c.bad("saying " + ones(61) + ";", 2, 127);
        c.bad("saying " + ones(60) + "+(1);", 2, 127);
        c.bad("saying " + ones(60) + "+has zed;", 2, 127);
        c.bad("saying " + ones(60) + " and not knows", 2, 135);
        String thirty = "saying " + ones(30) + ";";
        c.good(thirty + thirty, 0);
        c.good(thirty + thirty + "law own;", 0);
        c.bad(thirty + thirty + "saying marks;", 2, 2 * thirty.length() + 7);
        c.bad(thirty + "saying " + ones(31) + ";", 2, thirty.length() + 7 + 60);
    }

    static void terms1ThirtyUnitsInAFormulaAlone(Checks c) {
        c.goodFormula(ones(30), 30);
        c.badFormula(ones(31), 2, 60);
        c.badFormula(ones(30) + "+has a", 2, 60);
        c.badFormula(ones(30) + "+(", 2, 60);
        c.badFormula("(" + ones(30) + ")", 2, 59);
        c.good("saying " + ones(31) + ";", 0);
        NinetyNights x = Checks.on("one a;");
        c.due("holds", Checks.holds(x, ones(30)), 2);
        c.due("holds", Checks.holds(x, ones(31)), -1);
        c.due("deep", Checks.deep(x, ones(30)), 99);
        c.due("deep", Checks.deep(x, ones(31)), NinetyNights.GAP);
        c.due("say", Checks.say(x, ones(30)), 0);
        c.due("say", Checks.say(x, ones(31)), -1);
        c.due("whisper", Checks.whisper(x, ones(30), 1), 1);
        c.due("whisper", Checks.whisper(x, ones(31), 1), -1);
    }

    static void terms1UnitsAreCountedAnewInEachText(Checks c) {
        NinetyNights x = Checks.on("one a;saying " + ones(60) + ";");
        c.due("a formula behind an ISLAND", Checks.ask(x, ones(30)), 30);
        c.due("another behind it", Checks.ask(x, ones(30)), 30);
        c.due("another behind a fault", Checks.ask(x, ones(31)), NinetyNights.GAP);
        c.due("another behind a fault", Checks.ask(x, ones(30)), 30);
        c.due("an ISLAND behind a formula", Checks.island(x, "saying " + ones(60) + ";"), 0);
        c.due("units", x.about(8), 60);
    }

    static void terms1EachUnitCounts(Checks c) {
        String[] units = {"7", "marks", "has a", "gone a", "knows a(7)", "all(7)", "common(7)", "(7)",
            "not 7", "7+marks*3", "7<7 or 7=7 and not not 7>7"};
        int[] counts = {1, 1, 1, 1, 2, 2, 2, 2, 1, 3, 6};
        for (int i = 0; i < units.length; i++) {
            c.due("units of " + units[i], Checks.on("one a;saying " + units[i] + ";").about(8), counts[i]);
        }
    }

    // ---- what stands within what

    static void terms1AUnitWithBracketsIsWithinSixOthersAtMost(Checks c) {
        String[] fronts = {"(", "all(", "common(", "knows a("};
        for (String front : fronts) {
            String six = "(".repeat(6);
            c.goodFormula(six + front + "1" + ")".repeat(7), 1);
            c.badFormula(six + "(" + front + "1" + ")".repeat(8), 2, 7);
            c.goodFormula(front.repeat(7) + "1" + ")".repeat(7), 1);
            c.badFormula(front.repeat(8) + "1" + ")".repeat(8), 2, 7 * front.length());
            c.goodFormula("not ".repeat(6) + front + "1)", 1);
            c.badFormula("not ".repeat(7) + front + "1)", 2, 28);
            c.good("one a;saying " + front.repeat(7) + "1" + ")".repeat(7) + ";", 1);
            c.bad("one a;saying " + front.repeat(8) + "1" + ")".repeat(8) + ";", 2, 13 + 7 * front.length());
        }
    }

    static void terms1AOneBehindNotIsWithinSixOthersAtMost(Checks c) {
        c.goodFormula("not ".repeat(7) + "1", 0);
        c.badFormula("not ".repeat(8) + "1", 2, 28);
        c.goodFormula("(".repeat(6) + "not 1" + ")".repeat(6), 0);
        c.badFormula("(".repeat(7) + "not 1" + ")".repeat(7), 2, 7);
        c.goodFormula("not (not (not (not 1)))", 1);
        c.badFormula("not (not (not (not not 1)))", 2, 19);
        c.badFormula("not (not (not (not (1))))", 2, 19);
        c.bad("saying " + "not ".repeat(8) + "1;", 2, 35);
    }

    static void terms1OtherUnitsMayBeWithinSeven(Checks c) {
        for (String unit : new String[] {"1", "marks", "has a"}) {
            c.goodFormula("(".repeat(7) + unit + ")".repeat(7), 1);
            c.goodFormula("not ".repeat(7) + unit, 0);
        }
        c.goodFormula("(".repeat(7) + "gone a + 1 * 1 = 1 and 1 or 0" + ")".repeat(7), 1);
    }

    static void terms1WhatStandsBesideOneAnotherIsNotWithin(Checks c) {
        c.goodFormula("(((((((1)))))))+(((((((1)))))))", 2);
        c.goodFormula("not not not not not not not 1 or not not not not not not not 0", 1);
        c.goodFormula("(1)*(1)*(1)*(1)*(1)*(1)*(1)*(1)*(1)", 1);
        c.goodFormula("not 1 or not 1 or not 1 or not 1 or not 1 or not 1 or not 1 or not 1 or not 0", 1);
        c.goodFormula("not ".repeat(6) + "(1)*1 and (((((((1)))))))", 1);
    }

    // ---- what a formula is

    static void terms1WhatBindsHow(Checks c) {
        c.goodFormula("1 or 0 and 0", 1);
        c.goodFormula("0 and 0 or 1", 1);
        c.goodFormula("not 0 and 0", 0);
        c.goodFormula("not 1 or 1", 1);
        c.goodFormula("not 1 = 0", 1);
        c.goodFormula("not 0 + 1", 0);
        c.goodFormula("1 + 1 = 2", 1);
        c.goodFormula("3 - 1 > 1 + 2", 0);
        c.goodFormula("2 + 3 * 4", 14);
        c.goodFormula("9 - 3 - 2 + 1", 5);
        c.goodFormula("48 / 4 / 3 * 2", 8);
        c.goodFormula("5 * 3 / 2", 7);
        c.goodFormula("5 / 2 * 3", 6);
        c.goodFormula("1 = 1 and 2 = 2 and 3 = 3 or 4 = 5", 1);
    }

    static void terms1FaultTwoIsWhatCantStandThere(Checks c) {
        c.badFormula("", 2, 0);
        c.badFormula("\n", 2, 1);
        c.badFormula(";", 2, 0);
        c.badFormula("1;", 2, 1);
        c.badFormula("-1", 2, 0);
        c.badFormula("+", 2, 0);
        c.badFormula("1+", 2, 2);
        c.badFormula("1+*2", 2, 2);
        c.badFormula("1 and", 2, 5);
        c.badFormula("or 1", 2, 0);
        c.badFormula("1=2=3", 2, 3);
        c.badFormula("1<2>3", 2, 3);
        c.badFormula("not 1<2>3", 2, 7);
        c.badFormula("1=not 1", 2, 2);
        c.badFormula("1+not 1", 2, 2);
        c.badFormula("2*not 1", 2, 2);
        c.badFormula("1 not", 2, 2);
        c.badFormula("not", 2, 3);
        c.badFormula("()", 2, 1);
        c.badFormula("(1", 2, 2);
        c.badFormula("(1;", 2, 2);
        c.badFormula("1)", 2, 1);
        c.badFormula("(1)(1)", 2, 3);
        c.badFormula("marks marks", 2, 6);
        c.badFormula("has", 2, 3);
        c.badFormula("has 1", 2, 4);
        c.badFormula("has (a)", 2, 4);
        c.badFormula("has a b", 2, 6);
        c.badFormula("gone", 2, 4);
        c.badFormula("knows", 2, 5);
        c.badFormula("knows a", 2, 7);
        c.badFormula("knows a 1", 2, 8);
        c.badFormula("knows(1)", 2, 5);
        c.badFormula("knows a()", 2, 8);
        c.badFormula("knows a(1", 2, 9);
        c.badFormula("all", 2, 3);
        c.badFormula("all a(1)", 2, 4);
        c.badFormula("common 1", 2, 7);
        c.badFormula("common()", 2, 7);
        c.badFormula("a", 2, 0);
        c.badFormula("law", 2, 0);
        c.badFormula("saying 1", 2, 0);
    }

    // ---- faults and places

    static void terms1FaultThreeIsANameToldAlready(Checks c) {
        c.bad("one a;one a;", 3, 10);
        c.bad("one a;one b;one a", 3, 16);
        c.bad("one a;one a $", 3, 10);
        c.good("one a;one aa;", 2);
    }

    static void terms1FaultFourIsANameThatNobodyHas(Checks c) {
        c.bad("blind a b;", 4, 6);
        c.bad("one a;blind b a;", 4, 12);
        c.bad("one a;blind a b;", 4, 14);
        c.bad("one a;blind b b;", 4, 12);
        c.bad("one a;saying has b;", 4, 17);
        c.badFormula("has c", 4, 4);
        c.badFormula("gone c", 4, 5);
        c.badFormula("knows c", 4, 6);
        c.badFormula("1+knows c(1)", 4, 8);
        c.badFormula("has aa", 4, 4);
        NinetyNights x = new NinetyNights();
        c.due("nobody is there", Checks.ask(x, "has a"), NinetyNights.GAP);
        c.dueFault(x, "has a", 4, 4);
    }

    static void terms1TheFirstFaultByItsPlaceCounts(Checks c) {
        c.badFormula("$ + has c", 1, 0);
        c.badFormula("has c + $", 4, 4);
        c.badFormula("1 2 $", 2, 2);
        c.badFormula("1 + has c 2", 4, 8);
        c.badFormula("( has c", 4, 6);
        c.bad("one a;one a;$", 3, 10);
        c.bad("one a;one $;one a;", 1, 10);
        c.bad("one a;one b c;one a;", 2, 12);
        c.bad("one a;blind a c;blind a a;", 4, 14);
        c.bad("one a;blind a a;blind a c;", 3, 14);
        c.bad("law has;law has;$", 2, 8);
        c.bad("saying 12345;law has;law has;", 1, 7);
    }

    static void terms1AtOnePlaceTheLeastFaultCounts(Checks c) {
        c.badFormula(ones(30) + "+$", 1, 60);
        c.badFormula(ones(30) + "+12345", 1, 60);
        c.badFormula("(".repeat(7) + "nottttttt 1" + ")".repeat(7), 1, 7);
        c.badFormula("1 $", 1, 2);
        c.badFormula("has $", 1, 4);
        c.badFormula("has abcdefghi", 1, 4);
        c.bad("one abcdefghi;", 1, 4);
        c.bad("one a;blind $ a;", 1, 12);
        c.bad("one a;blind a $;", 1, 14);
        c.bad("law $;", 1, 4);
        c.bad("$", 1, 0);
        c.bad("one a marked $", 1, 13);
        c.bad("saying 1$", 1, 8);
    }

    static void terms1TheEndsPlaceIsTheTextsLength(Checks c) {
        c.bad("one", 2, 3);
        c.bad("one \n ", 2, 6);
        c.bad("one a  ", 2, 7);
        c.bad("saying", 2, 6);
        c.badFormula("   ", 2, 3);
        c.badFormula("1 +  ", 2, 5);
        c.badFormula("has", 2, 3);
        NinetyNights x = new NinetyNights();
        Checks.feed(x, "one a;one b;");
        x.end(11);
        c.due("what was cut off is no part of it", x.island(), -1);
        c.dueFault(x, "a text that was cut", 2, 11);
    }
}
