/** The tokens, the grammar of islands and formulas, and the faults with their places. */
public final class FaultTest {
    private static final Checks CHECKS = new Checks();
    private static final String TWO = "one a;one b;";
    private static final String EIGHT =
            "one a;one b;one c;one d;one e;one f;one g;one h;";

    public static void main(String[] args) {
        goodIslands();
        tokens();
        people();
        blind();
        lawAndSayings();
        formulas();
        units();
        within();
        state();
        CHECKS.finish();
    }

    private static void good(String text, int people) {
        CHECKS.good(text, people);
    }

    private static void bad(String text, int fault, int place) {
        CHECKS.bad(text, fault, place);
    }

    private static void badFormula(String text, int fault, int place) {
        CHECKS.badFormula(text, fault, place);
    }

    private static void goodFormula(String text, int value) {
        CHECKS.goodFormula(text, value);
    }

    private static void goodIslands() {
        good("", 0);
        good(" \n ", 0);
        good("law has;", 0);
        good("one a;", 1);
        good("one\na\nmarked mirror stays ;", 1);
        good("one a mirror;one b stays;one c marked stays;", 3);
        good("one both;one sum;one f;one abcdefgh;one island;one unit;", 6);
        good(EIGHT, 8);
        good("saying 1;saying 1<2;law own;saying(1)and(0);", 0);
        good(TWO + "blind a b;blind b a;law own;saying has a;", 2);
    }

    private static void tokens() {
        bad("One a;", 1, 0);
        bad("one A;", 1, 4);
        bad("one a,", 1, 5);
        bad("one a\t;", 1, 5);
        bad("one abcdefghi;", 1, 4);
        bad("one a" + (char) 0, 1, 5);
        bad("one a" + (char) 225 + ";", 1, 5);
        badFormula("12345", 1, 0);
        badFormula("1+12x", 1, 2);
        badFormula("1+12 x", 2, 5);
        badFormula("1 2", 2, 2);
        badFormula("&", 1, 0);
        badFormula("1+\f2", 1, 2);
        goodFormula("0009", 9);
        goodFormula("9999", 9999);
        goodFormula("marks<2 and(1)", 1);
        badFormula("marks<2and 1", 1, 6);
        goodFormula("knows\nb(has a)", 1);
        badFormula("hasa", 2, 0);
        badFormula("has a1", 2, 5);
    }

    private static void people() {
        bad("one", 2, 3);
        bad("one ", 2, 4);
        bad("one ;", 2, 4);
        bad("one marks;", 2, 4);
        bad("one 1;", 2, 4);
        bad("one a", 2, 5);
        bad("one a b;", 2, 6);
        bad("one a marked marked;", 2, 13);
        bad("one a stays mirror;", 2, 12);
        bad("one a;one a;", 3, 10);
        bad("one a;one a", 3, 10);
        bad("one a;;", 2, 6);
        bad("a;", 2, 0);
        bad("marked;", 2, 0);
        bad(EIGHT + "one i;", 2, 48);
        bad(EIGHT + "one a;", 2, 48);
        bad("law has;one a;", 2, 8);
        bad("one a;saying 1;one b;", 2, 15);
        bad("one a;one b;blind a b;one c;", 2, 22);
        for (String word : new String[] {"one", "marked", "mirror", "stays", "blind", "law", "has",
            "own", "saying", "or", "and", "not", "marks", "gone", "knows", "all", "common"}) {
            bad("one " + word + ";", 2, 4);
        }
    }

    private static void blind() {
        bad(TWO + "blind a a;", 3, 20);
        bad(TWO + "blind a b;blind a b;", 3, 30);
        bad(TWO + "blind a c;", 4, 20);
        bad(TWO + "blind c c;", 4, 18);
        bad(TWO + "blind a;", 2, 19);
        bad(TWO + "blind not a;", 2, 18);
        bad(TWO + "blind a b", 2, 21);
        bad(TWO + "blind a b c;", 2, 22);
        StringBuilder text = new StringBuilder(EIGHT);
        int told = 0;
        for (char one = 'a'; one <= 'h'; one++) {
            for (char other = 'a'; other <= 'h' && told < 30; other++) {
                if (one != other) {
                    text.append("blind ").append(one).append(' ').append(other).append(';');
                    told++;
                }
            }
        }
        good(text.toString(), 8);
        bad(text + "blind h a;", 2, text.length());
        bad(text + "blind a b;", 2, text.length());
    }

    private static void lawAndSayings() {
        bad("law;", 2, 3);
        bad("law marks;", 2, 4);
        bad("law has own;", 2, 8);
        bad("law has;law has;", 2, 8);
        bad("law own;saying 1;law own;", 2, 17);
        bad("saying;", 2, 6);
        bad("saying 1", 2, 8);
        bad("saying has a;", 4, 11);
        bad("saying 1 saying 2;", 2, 9);
        good(Checks.repeat("saying 1;", 6), 0);
        bad(Checks.repeat("saying 1;", 7), 2, 54);
    }

    private static void formulas() {
        badFormula("", 2, 0);
        badFormula("  ", 2, 2);
        badFormula("1;", 2, 1);
        badFormula("1 +", 2, 3);
        badFormula("1 + ", 2, 4);
        badFormula("-1", 2, 0);
        badFormula("1 < 2 < 3", 2, 6);
        badFormula("1 < not 2", 2, 4);
        badFormula("1 + not 2", 2, 4);
        badFormula("(1", 2, 2);
        badFormula("1)", 2, 1);
        badFormula("()", 2, 1);
        badFormula("not", 2, 3);
        badFormula("1 and or 2", 2, 6);
        badFormula("has", 2, 3);
        badFormula("has marks", 2, 4);
        badFormula("has zed", 4, 4);
        badFormula("gone zed", 4, 5);
        badFormula("knows zed(1)", 4, 6);
        badFormula("knows (1)", 2, 6);
        badFormula("knows a 1", 2, 8);
        badFormula("all 1", 2, 4);
        badFormula("common has a", 2, 7);
        badFormula("a", 2, 0);
        badFormula("own", 2, 0);
        badFormula("1 not 2", 2, 2);
        badFormula("has zed + $", 4, 4);
        badFormula("1 + $ + has zed", 1, 4);
        goodFormula("1 or 0 and 0", 1);
        goodFormula("not 0 and 0", 0);
        goodFormula("not 1 > 2", 1);
        goodFormula("not not 7", 1);
        goodFormula("7", 7);
        goodFormula("(7)", 7);
        goodFormula("7 or 0", 1);
        goodFormula("7 and 8", 1);
        goodFormula("2 + 3 * 4 - 1", 13);
        goodFormula("20 / 3 / 2", 3);
        goodFormula("9 - 3 - 2", 4);
        goodFormula("1 + 1 = 2 and 3 > 2 or 0", 1);
    }

    private static void units() {
        goodFormula("1" + Checks.repeat("+1", 29), 30);
        badFormula("1" + Checks.repeat("+1", 30), 2, 60);
        badFormula("1" + Checks.repeat("+1", 29) + "+has zed", 2, 60);
        badFormula("1" + Checks.repeat("+1", 29) + "+$", 1, 60);
        badFormula("(1" + Checks.repeat("+1", 29) + ")", 2, 59);
        goodFormula("(1" + Checks.repeat("+1", 28) + ")", 29);
        good("saying 1" + Checks.repeat("+1", 59) + ";", 0);
        bad("saying 1" + Checks.repeat("+1", 60) + ";", 2, 127);
        String thirty = "saying 1" + Checks.repeat("+1", 29) + ";";
        good(thirty + thirty, 0);
        bad(thirty + thirty + "saying 1;", 2, 2 * thirty.length() + 7);
        CHECKS.due("units", Checks.on(thirty + thirty).about(8), 60);
        CHECKS.due("units", Checks.on("one a;saying knows a(all((1)+common(has a)));").about(8), 6);
    }

    private static void within() {
        goodFormula(Checks.repeat("(", 7) + "5" + Checks.repeat(")", 7), 5);
        badFormula(Checks.repeat("(", 8) + "5" + Checks.repeat(")", 8), 2, 7);
        goodFormula(Checks.repeat("not ", 7) + "5", 0);
        badFormula(Checks.repeat("not ", 8) + "5", 2, 28);
        goodFormula(Checks.repeat("not (", 3) + "not has a" + Checks.repeat(")", 3), 1);
        badFormula(Checks.repeat("not (", 3) + "not (5)" + Checks.repeat(")", 3), 2, 19);
        badFormula(Checks.repeat("all(", 7) + "knows a(1)" + Checks.repeat(")", 7), 2, 28);
        badFormula(Checks.repeat("all(", 7) + "not 1" + Checks.repeat(")", 7), 2, 28);
        goodFormula("not not not not not not not 1 and not not not not not not not 0", 0);
        goodFormula(Checks.repeat("common(", 7) + "gone a + has a" + Checks.repeat(")", 7), 0);
        // As many rows as can wait at once: five in each of eight formulas within one another.
        String deep = Checks.repeat("1 or 1 and 1 = 1 + 1 * (", 7) + "1 or 1 and 1 = 1 + 1 * has a"
                + Checks.repeat(")", 7);
        NinetyNights x = Checks.on("one a marked;saying " + deep + ";");
        CHECKS.due("units of the deepest", x.about(8), 48);
        CHECKS.due("the deepest said", x.saying(0), 0);
    }

    /** What a fault leaves, and where fault() speaks of another act. */
    private static void state() {
        NinetyNights x = new NinetyNights();
        CHECKS.due("fault(0) at first", x.fault(0), 0);
        CHECKS.due("fault(1) at first", x.fault(1), -1);
        CHECKS.due("fault(2)", x.fault(2), -1);
        CHECKS.due("fault(-1)", x.fault(-1), -1);
        CHECKS.due("island", Checks.island(x, "one a marked;one b;saying 1;"), 2);
        CHECKS.due("saying", x.saying(0), 0);
        CHECKS.due("bad island", Checks.island(x, "one zed marked mirror;one a a;"), -1);
        CHECKS.due("tape behind a bad island", x.about(7), 0);
        CHECKS.due("fault", x.fault(0), 2);
        CHECKS.due("place", x.fault(1), 28);
        CHECKS.due("people stay", x.about(0), 2);
        CHECKS.due("true world stays", x.about(2), 1);
        CHECKS.due("sees stays", x.sees(0), 2);
        CHECKS.due("names stay", Checks.ask(x, "has a"), 1);
        CHECKS.due("fault goes", x.fault(0), 0);
        CHECKS.due("place goes", x.fault(1), -1);
        CHECKS.due("holds", Checks.holds(x, "has c"), -1);
        CHECKS.due("fault of holds", x.fault(0), 4);
        CHECKS.due("saying reads none", x.saying(0), 0);
        CHECKS.due("fault of holds still", x.fault(0), 4);
        CHECKS.due("deep", Checks.deep(x, "1+"), NinetyNights.GAP);
        CHECKS.due("fault of deep", x.fault(1), 2);
        CHECKS.due("say", Checks.say(x, "$"), -1);
        CHECKS.due("fault of say", x.fault(0), 1);
        CHECKS.due("whisper", Checks.whisper(x, "has a has b", 1), -1);
        CHECKS.due("fault of whisper", x.fault(1), 6);
        CHECKS.due("whisper to none such", Checks.whisper(x, "has a", 4), -1);
        CHECKS.due("no fault", x.fault(0), 0);
        CHECKS.due("tape", x.about(7), 0);
    }
}
