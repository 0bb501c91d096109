/** What the tests share: putting a text on the tape, and counting answers that are not due. */
final class Checks {
    private final String ahead;
    private int wrong = 0;

    Checks() {
        this("");
    }

    /** What is printed ahead of each answer that is not due: the test's name. */
    Checks(String ahead) {
        this.ahead = ahead;
    }

    void due(String what, long got, long want) {
        if (got != want) {
            wrong++;
            System.out.println(ahead + what + " answered " + got + ", due is " + want);
        }
    }

    /** A text that is an island of so many people. */
    void good(String text, int people) {
        NinetyNights x = new NinetyNights();
        due("island of " + text, island(x, text), people);
        dueFault(x, text, 0, NinetyNights.NONE);
    }

    /** A text that is no island. */
    void bad(String text, int fault, int place) {
        NinetyNights x = new NinetyNights();
        due("island of " + text, island(x, text), NinetyNights.NONE);
        dueFault(x, text, fault, place);
    }

    /** A formula with its value where a, who has a mark, and b are. */
    void goodFormula(String text, int value) {
        NinetyNights x = on("one a marked;one b;");
        due("ask of " + text, ask(x, text), value);
        dueFault(x, text, 0, NinetyNights.NONE);
    }

    void badFormula(String text, int fault, int place) {
        NinetyNights x = on("one a marked;one b;");
        due("ask of " + text, ask(x, text), NinetyNights.GAP);
        dueFault(x, text, fault, place);
    }

    void dueFault(NinetyNights x, String text, int fault, int place) {
        due("fault(0) of " + text, x.fault(0), fault);
        due("fault(1) of " + text, x.fault(1), place);
    }

    void due(String what, boolean got, boolean want) {
        due(what, got ? 1 : 0, want ? 1 : 0);
    }

    void finish() {
        System.out.println(wrong == 0 ? "all answers are as due" : wrong + " answers are not as due");
        if (wrong != 0) {
            System.exit(1);
        }
    }

    boolean clean() {
        return wrong == 0;
    }

    /** Puts a text behind what is on the tape, twenty bytes a time, blanks behind its end. */
    static int feed(NinetyNights x, String text) {
        int before = x.about(7);
        int calls = 0;
        for (int at = 0; at < text.length(); at += 20) {
            x.feed(four(text, at), four(text, at + 4), four(text, at + 8), four(text, at + 12),
                    four(text, at + 16));
            calls++;
        }
        x.end(before + text.length());
        return calls + 2;
    }

    private static int four(String text, int at) {
        int number = 0;
        for (int i = at; i < at + 4; i++) {
            number = number << 8 | (i < text.length() ? text.charAt(i) & 255 : ' ');
        }
        return number;
    }

    static NinetyNights on(String island) {
        NinetyNights x = new NinetyNights();
        feed(x, island);
        if (x.island() == NinetyNights.NONE) {
            throw new IllegalStateException("fault " + x.fault(0) + " at " + x.fault(1) + ": " + island);
        }
        return x;
    }

    static int island(NinetyNights x, String text) {
        feed(x, text);
        return x.island();
    }

    static int ask(NinetyNights x, String text) {
        feed(x, text);
        return x.ask();
    }

    static int holds(NinetyNights x, String text) {
        feed(x, text);
        return x.holds();
    }

    static int deep(NinetyNights x, String text) {
        feed(x, text);
        return x.deep();
    }

    static int say(NinetyNights x, String text) {
        feed(x, text);
        return x.say();
    }

    static int whisper(NinetyNights x, String text, int people) {
        feed(x, text);
        return x.whisper(people);
    }

    static String repeat(String text, int times) {
        return text.repeat(times);
    }
}
