import java.util.Random;

/** Calls of all kinds with any arguments in any state: none throws, and like runs answer alike. */
public final class AnyCallTest {
    private static final int[] EDGES = {Integer.MIN_VALUE, Integer.MIN_VALUE + 1, -1000000, -2, -1, 0, 1, 2, 3, 5, 6, 7,
        8, 9, 12, 13, 19, 20, 31, 32, 33, 63, 64, 127, 255, 256, 300, 1000, 1001, 1600, 99999, Integer.MAX_VALUE};

    public static void main(String[] args) {
        Checks checks = new Checks();
        for (int seed = 0; seed < 300; seed++) {
            checks.due("seed " + seed + " again", run(seed), run(seed));
        }
        checks.finish();
    }

    private static long run(int seed) {
        Random random = new Random(seed * 104729L + 3);
        NinetyNights x = new NinetyNights();
        long all = 0;
        int calls = 0;
        while (calls < 480) {
            if (random.nextInt(6) == 0) {
                Model m = Model.random(random, random.nextInt(9));
                String text = random.nextInt(4) == 0 ? m.text() : Formula.random(random, m.people, 5, 6).text();
                calls += Checks.feed(x, text);
                if (calls < 510) {
                    all = all * 31 + read(x, random, text);
                }
            }
            all = all * 31 + call(x, random.nextInt(27), random);
            calls += 2;
        }
        return all;
    }

    private static int read(NinetyNights x, Random random, String text) {
        if (text.startsWith("one")) {
            return x.island();
        }
        switch (random.nextInt(5)) {
            case 0:
                return x.ask();
            case 1:
                return x.holds();
            case 2:
                return x.deep();
            case 3:
                return x.say();
            default:
                return x.whisper(random.nextInt(9));
        }
    }

    private static int number(Random random) {
        switch (random.nextInt(4)) {
            case 0:
                return random.nextInt();
            case 1:
                return EDGES[random.nextInt(EDGES.length)];
            default:
                return random.nextInt(8);
        }
    }

    private static int call(NinetyNights x, int which, Random random) {
        int a = number(random);
        int b = number(random);
        int c = number(random);
        switch (which) {
            case 0:
                return x.feed(a, b, c, number(random), number(random));
            case 1:
                return x.end(a);
            case 2:
                return random.nextInt(20) == 0 ? x.island() : 0;
            case 3:
                return x.fault(a);
            case 4:
                return x.sees(a);
            case 5:
                return x.worlds();
            case 6:
                return x.possible(a);
            case 7:
                return x.like(a, b, c);
            case 8:
                return x.own(a);
            case 9:
                return x.ask();
            case 10:
                return x.holds();
            case 11:
                return x.deep();
            case 12:
                return x.say();
            case 13:
                return x.saying(a);
            case 14:
                return x.whisper(a);
            case 15:
                return x.night();
            case 16:
                return x.gone();
            case 17:
                return x.when(a);
            case 18:
                return x.fewest(a, b);
            case 19:
                return x.sight(a, b, c > 1);
            case 20:
                return x.untell(a) ? 1 : 0;
            case 21:
                return x.later(a);
            case 22:
                return x.fits(a);
            case 23:
                return x.sure(a, b);
            case 24:
                return x.image(a);
            case 25:
                return x.back(a);
            default:
                return x.about(a);
        }
    }
}
