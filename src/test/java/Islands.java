/** Islands that several tests use. */
final class Islands {
    static final String THREE = "one ann marked;one ben marked;one cy;saying marks > 0;saying has ann;";
    static final String EIGHT = "one a;one b;one c;one d;one e;one f;one g;one h;";

    /**
     * Two who each see the other's number, and all know that b's is a's or one more. Marks are the
     * numbers' bits, the own mark the lowest of the other's; who has a higher bit stays. By the law
     * own the least pair goes first, (0, 0) on the first night; the top is closed, so that nobody
     * learns from above. Here b's number is a's and one more, as high as can be: b goes on night 12,
     * a, who sees it, on night 13.
     */
    static final String STEPS = "one a marked;one b;one c stays;one d marked stays;one e marked stays;"
            + "one f marked stays;blind a c;blind a d;blind b e;blind b f;law own;"
            + "saying (has b+has e*2+has f*4-has a-has c*2-has d*4+6)/2=3 or has c*has d*has e*has f;";

    /** The same with numbers of four bits: b goes on night 28, a on night 29. */
    static final String LONG_STEPS = "one a marked;one b;one c stays;one d marked stays;one e marked stays;"
            + "one f marked stays;one g marked stays;one h marked stays;"
            + "blind a c;blind a d;blind a g;blind b e;blind b f;blind b h;law own;"
            + "saying (has b+has e*2+has f*4+has h*8-has a-has c*2-has d*4-has g*8+14)/2=7"
            + " or has c*has d*has g*has e*has f*has h;";

    private Islands() {
    }

    /**
     * Whispers that leave a single chain of 256 worlds, as the Gray code goes: each is alike only
     * to the next, to one of the eight. What is not so k steps from here is known k - 1 deep.
     */
    static NinetyNights chain() {
        NinetyNights x = Checks.on(EIGHT);
        StringBuilder lower = new StringBuilder("0");
        for (int one = 1; one < 8; one++) {
            char before = (char) ('a' + one - 1);
            String formula = "has " + (char) ('a' + one) + " and not (has " + before + " and " + lower + " = 0)";
            if (Checks.whisper(x, formula, 1 << one) != 0) {
                throw new IllegalStateException("not 0: whisper of " + formula);
            }
            lower.append(" + has ").append(before);
        }
        return x;
    }

    /** A formula that is so in the world so many steps along the chain, and in no other. */
    static String atStep(int step) {
        int marks = step ^ step >> 1;
        StringBuilder text = new StringBuilder("marks = " + Integer.bitCount(marks));
        for (int one = 0; one < 8; one++) {
            if ((marks >> one & 1) == 1) {
                text.append(" and has ").append((char) ('a' + one));
            }
        }
        return text.toString();
    }
}
