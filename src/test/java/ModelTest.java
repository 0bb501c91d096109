import java.util.ArrayList;
import java.util.List;
import java.util.Random;

/** Random runs of calls, each answer held against the model's. */
public final class ModelTest {
    private static final Checks CHECKS = new Checks();

    public static void main(String[] args) {
        int first = args.length > 0 ? Integer.parseInt(args[0]) : 0;
        int runs = args.length > 1 ? Integer.parseInt(args[1]) : 60;
        for (int seed = first; seed < first + runs && CHECKS.clean(); seed++) {
            new ModelTest(seed).run();
        }
        CHECKS.finish();
    }

    private final int seed;
    private final Random random;
    private final NinetyNights x = new NinetyNights();
    private Model model = new Model();
    private final Model[] boxes = new Model[3];
    private final List<int[]> sights = new ArrayList<>();
    private int[][][] guesses;
    private int time;
    private int calls;

    private ModelTest(int seed) {
        this.seed = seed;
        random = new Random(seed * 7919L + 1);
        model.start();
    }

    private void due(String what, long got, long want) {
        CHECKS.due("seed " + seed + ": " + what, got, want);
    }

    private void run() {
        newIsland();
        for (int i = 0; i < 60 && calls < 380 && CHECKS.clean(); i++) {
            act();
            look();
        }
    }

    private int people() {
        int[] often = {0, 1, 2, 3, 3, 3, 4, 4, 5, 6};
        if (seed % 50 == 7) {
            return 7 + random.nextInt(2);
        }
        return often[random.nextInt(often.length)];
    }

    private void newIsland() {
        Model next = Model.random(random, people());
        calls += Checks.feed(x, next.text()) + 1;
        int got = x.island();
        if (got == -1) {
            due("island, not a good text: " + x.fault(0) + " at " + x.fault(1) + " of " + next.text(), got, next.people);
            return;
        }
        due("island", got, next.people);
        due("units", x.about(8), next.units());
        model = next;
        guesses = null;
        sights.clear();
        for (int box = 0; box < 3; box++) {
            boxes[box] = null;
        }
    }

    private Formula formula() {
        return Formula.random(random, model.people, 4, 1 + random.nextInt(7));
    }

    private void act() {
        calls++;
        Formula f = formula();
        switch (random.nextInt(16)) {
            case 0:
            case 1:
            case 2:
                calls += Checks.feed(x, f.text());
                due("say " + f.text(), x.say(), model.say(f));
                break;
            case 3:
            case 4:
                int to = random.nextInt(1 << model.people);
                calls += Checks.feed(x, f.text());
                due("whisper " + f.text() + " to " + to, x.whisper(to), model.whisper(f, to));
                break;
            case 5:
            case 6:
                due("night", x.night(), model.night());
                break;
            case 7:
            case 8:
                int i = random.nextInt(7);
                int want = i < model.sayings.size() ? model.say(model.sayings.get(i)) : -1;
                due("saying " + i, x.saying(i), want);
                break;
            case 9:
                int box = random.nextInt(3);
                boxes[box] = model.copy();
                due("image", x.image(box), model.nights);
                break;
            case 10:
            case 11:
                goBack(random.nextInt(3));
                break;
            case 12:
            case 13:
                actOnSights();
                break;
            case 14:
                Formula g = formula();
                calls += Checks.feed(x, g.text());
                due("deep " + g.text(), x.deep(), model.deep(g));
                break;
            default:
                if (random.nextInt(6) == 0) {
                    newIsland();
                }
                break;
        }
    }

    private void goBack(int box) {
        if (boxes[box] == null) {
            due("back", x.back(box), -1);
        } else {
            model = boxes[box].copy();
            due("back", x.back(box), model.nights);
        }
    }

    private void actOnSights() {
        switch (random.nextInt(4)) {
            case 0:
                int by = random.nextInt(3);
                time += by;
                due("later", x.later(by), time);
                break;
            case 1:
                int i = random.nextInt(4);
                boolean can = i < sights.size() && sights.get(i)[4] == Integer.MAX_VALUE;
                due("untell " + i, x.untell(i) ? 1 : 0, can ? 1 : 0);
                if (can) {
                    sights.get(i)[4] = time;
                }
                break;
            default:
                int one = random.nextInt(model.people + 1);
                int night = 1 + random.nextInt(4);
                boolean went = random.nextInt(3) == 0;
                boolean good = one < model.people && sights.size() < 20;
                due("sight", x.sight(one, night, went), good ? sights.size() : -1);
                if (good) {
                    sights.add(new int[] {one, night, went ? 1 : 0, time, Integer.MAX_VALUE});
                }
                break;
        }
    }

    private void look() {
        calls += 4;
        due("worlds", x.worlds(), model.possible.size());
        due("gone", x.gone(), model.gone);
        int world = random.nextInt(1 << model.people);
        due("possible " + world, x.possible(world), model.possible.contains(world) ? 1 : 0);
        switch (random.nextInt(7)) {
            case 0:
                int set = random.nextInt(1 << model.people) & random.nextInt(1 << model.people);
                int n = 1 + random.nextInt(12);
                if (model.people < 6) {
                    due("fewest " + set + ", " + n, x.fewest(set, n), model.fewest(set, n));
                }
                break;
            case 1:
                lookAtFits();
                break;
            case 2:
                Formula f = formula();
                calls += Checks.feed(x, f.text());
                due("holds " + f.text(), x.holds(), model.holds(f));
                break;
            case 3:
                Formula g = formula();
                calls += Checks.feed(x, g.text());
                due("ask " + g.text(), x.ask(), model.values(g)[model.marked]);
                break;
            default:
                if (model.people > 0) {
                    lookAtOne(random.nextInt(model.people), world);
                }
                break;
        }
    }

    private void lookAtOne(int one, int world) {
        calls += 4;
        int other = random.nextInt(1 << model.people);
        boolean both = model.possible.contains(world) && model.possible.contains(other);
        int like = model.like(one, world, other) ? 1 : 0;
        due("like", x.like(one, world, other), both ? like : -1);
        due("own " + one, x.own(one), model.own(one, model.marked));
        due("when " + one, x.when(one), model.when(one));
        int seen = 0;
        for (int i = 0; i < model.people; i++) {
            seen |= model.sees(one, i) ? 1 << i : 0;
        }
        due("sees " + one, x.sees(one), seen);
    }

    private void lookAtFits() {
        calls += 2;
        int k = random.nextInt(time + 2) - 1;
        int one = model.people == 0 ? 0 : random.nextInt(model.people);
        if (model.people > 6) {
            due("fits", x.fits(k), -2);
            due("sure", x.sure(one, k), -3);
            return;
        }
        if (guesses == null) {
            guesses = model.guesses();
        }
        int fitting = 0;
        int with = 0;
        for (int[][] bySaying : guesses) {
            for (int world = 0; world < bySaying.length; world++) {
                if (bySaying[world] != null && agree(bySaying[world], k)) {
                    fitting++;
                    with += world >> one & 1;
                }
            }
        }
        due("fits " + k, x.fits(k), fitting);
        int sure = with == fitting ? 1 : with == 0 ? 0 : -2;
        due("sure " + k, x.sure(one, k), fitting == 0 || model.people == 0 ? -1 : sure);
    }

    private boolean agree(int[] nights, int k) {
        for (int[] sight : sights) {
            boolean counts = sight[3] <= k && sight[4] > k;
            if (counts && (nights[sight[0]] == sight[1]) != (sight[2] == 1)) {
                return false;
            }
        }
        return true;
    }
}
