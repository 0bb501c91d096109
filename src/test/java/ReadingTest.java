import java.util.ArrayList;
import java.util.List;
import java.util.Random;

/** Good texts with a few pieces put in, left out or changed: the faults against the Shunter's. */
public final class ReadingTest {
    private static final Checks CHECKS = new Checks();
    private static final String[] PIECES = {"one", "marked", "mirror", "stays", "blind", "law", "has", "own",
        "saying", "or", "and", "not", "marks", "gone", "knows", "all", "common", "ax", "bx", "zz", "abcdefgh",
        "abcdefghi", "7", "1234", "12345", "7x", "(", ")", ";", "<", ">", "=", "+", "-", "*", "/", "$", " ", "\n",
        "\t", "A", "(", ")", "not", "not not not not not not not", "(((((((", ")))))))", "one ax;", "one zz;",
        "law own;", "saying 1;", "blind ax bx;", "has ax", "knows bx(", "all(", "1+1+1+1+1+1+1+1+1+1+1+1+1+1+1+1"};

    public static void main(String[] args) {
        int first = args.length > 0 ? Integer.parseInt(args[0]) : 0;
        int runs = args.length > 1 ? Integer.parseInt(args[1]) : 20000;
        int[] faults = new int[5];
        for (int seed = first; seed < first + runs && CHECKS.clean(); seed++) {
            Random random = new Random(seed * 31337L + 5);
            if (random.nextBoolean()) {
                faults[island(random)]++;
            } else {
                faults[formula(random)]++;
            }
        }
        for (int fault = 0; fault < faults.length; fault++) {
            CHECKS.due("fault " + fault + " was among them", faults[fault] > runs / 1000, true);
        }
        CHECKS.finish();
    }

    private static String change(Random random, String text) {
        StringBuilder changed = new StringBuilder(text);
        for (int i = random.nextInt(4); i > 0; i--) {
            int at = random.nextInt(changed.length() + 1);
            int gone = Math.min(changed.length(), at + random.nextInt(6));
            switch (random.nextInt(6)) {
                case 0:
                    changed.delete(at, gone);
                    break;
                case 2:
                    tellTwice(random, changed);
                    break;
                case 1:
                    changed.insert(at, changed.substring(at, gone));
                    break;
                default:
                    String gap = random.nextBoolean() ? " " : "";
                    changed.insert(at, gap + PIECES[random.nextInt(PIECES.length)] + gap);
                    break;
            }
        }
        return changed.length() > 1600 ? changed.substring(0, 1600) : changed.toString();
    }

    /** A line of the text comes again behind another. */
    private static void tellTwice(Random random, StringBuilder text) {
        String[] lines = text.toString().split("(?<=;)");
        int at = 0;
        for (int i = random.nextInt(lines.length); i >= 0; i--) {
            at += lines[i].length();
        }
        text.insert(at, lines[random.nextInt(lines.length)]);
    }

    private static int island(Random random) {
        String text = change(random, Model.random(random, random.nextInt(9)).text());
        NinetyNights x = new NinetyNights();
        Shunter s = Shunter.ofIsland(text);
        int got = Checks.island(x, text);
        compare(x, s, text);
        CHECKS.due("good or not: " + text, got == -1, s.fault != 0);
        if (s.fault == 0) {
            CHECKS.due("units of " + text, x.about(8), s.units);
        }
        return s.fault;
    }

    private static int formula(Random random) {
        Model model = Model.random(random, random.nextInt(4));
        List<String> names = new ArrayList<>();
        for (int one = 0; one < model.people; one++) {
            names.add(Model.name(one));
        }
        NinetyNights x = Checks.on(model.text());
        String text = change(random, Formula.random(random, model.people, 5, 1 + random.nextInt(8)).text());
        Shunter s = Shunter.ofFormula(text, names);
        int got = Checks.holds(x, text);
        compare(x, s, text);
        CHECKS.due("good or not: " + text, got == -1, s.fault != 0);
        return s.fault;
    }

    private static void compare(NinetyNights x, Shunter s, String text) {
        CHECKS.due("fault of " + text, x.fault(0), s.fault);
        CHECKS.due("place of the fault of " + text, x.fault(1), s.place);
    }
}
