/** What the tests share: putting a text on the tape, and counting answers that are not due. */
final class Checks {
    private int wrong = 0;

    void due(String what, long got, long want) {
        if (got != want) {
            wrong++;
            System.out.println(what + " answered " + got + ", due is " + want);
        }
    }

    void due(String what, boolean got, boolean want) {
        due(what, got ? 1 : 0, want ? 1 : 0);
    }

    void finish() {
        System.out.println(wrong == 0 ? "all answers are as due" : wrong + " answers are not as due");
        if (wrong != 0) {
            System.exit(1);
        }
    }

    boolean clean() {
        return wrong == 0;
    }

    /** Puts a text behind what is on the tape, twenty bytes a time, blanks behind its end. */
    static int feed(NinetyNights x, String text) {
        int before = x.about(7);
        int calls = 0;
        for (int at = 0; at < text.length(); at += 20) {
            x.feed(four(text, at), four(text, at + 4), four(text, at + 8), four(text, at + 12),
                    four(text, at + 16));
            calls++;
        }
        x.end(before + text.length());
        return calls + 2;
    }

    private static int four(String text, int at) {
        int number = 0;
        for (int i = at; i < at + 4; i++) {
            number = number << 8 | (i < text.length() ? text.charAt(i) & 255 : ' ');
        }
        return number;
    }

    static NinetyNights on(String island) {
        NinetyNights x = new NinetyNights();
        feed(x, island);
        if (x.island() == NinetyNights.NONE) {
            throw new IllegalStateException("fault " + x.fault(0) + " at " + x.fault(1) + ": " + island);
        }
        return x;
    }

    static int island(NinetyNights x, String text) {
        feed(x, text);
        return x.island();
    }

    static int ask(NinetyNights x, String text) {
        feed(x, text);
        return x.ask();
    }

    static int holds(NinetyNights x, String text) {
        feed(x, text);
        return x.holds();
    }

    static int deep(NinetyNights x, String text) {
        feed(x, text);
        return x.deep();
    }

    static int say(NinetyNights x, String text) {
        feed(x, text);
        return x.say();
    }

    static int whisper(NinetyNights x, String text, int people) {
        feed(x, text);
        return x.whisper(people);
    }

    static String repeat(String text, int times) {
        return text.repeat(times);
    }
}
