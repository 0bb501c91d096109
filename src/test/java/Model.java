import java.util.ArrayList;
import java.util.List;
import java.util.Random;
import java.util.TreeSet;

/** The document's definitions, word by word, without a thought of speed. */
final class Model {
    int people;
    int marked;
    int mirrors;
    int stayers;
    boolean[][] blind = new boolean[8][8];
    boolean ownLaw;
    List<Formula> sayings = new ArrayList<>();

    TreeSet<Integer> possible = new TreeSet<>();
    int gone;
    int nights;
    List<int[]> whispers = new ArrayList<>();
    List<Integer> whisperedTo = new ArrayList<>();

    static String name(int one) {
        return "" + (char) ('a' + one) + "x";
    }

    static Model random(Random random, int people) {
        Model m = new Model();
        m.people = people;
        m.marked = random.nextInt(1 << people);
        m.mirrors = random.nextInt(3) == 0 ? random.nextInt(1 << people) & random.nextInt(1 << people) : 0;
        m.stayers = random.nextInt(3) == 0 ? random.nextInt(1 << people) & random.nextInt(1 << people) : 0;
        m.ownLaw = random.nextInt(3) == 0;
        for (int i = random.nextInt(4); i > 0 && people > 1; i--) {
            int one = random.nextInt(people);
            int other = random.nextInt(people);
            m.blind[one][other] = one != other;
        }
        for (int i = random.nextInt(7); i > 0; i--) {
            boolean plain = people > 0 && random.nextInt(3) > 0;
            Formula f = plain ? Formula.plain(random, people)
                    : Formula.random(random, people, 3, 1 + random.nextInt(5));
            if (m.units() + f.units() <= 60) {
                m.sayings.add(f);
            }
        }
        m.start();
        return m;
    }

    int units() {
        int units = 0;
        for (Formula f : sayings) {
            units += f.units();
        }
        return units;
    }

    void start() {
        possible.clear();
        for (int world = 0; world < 1 << people; world++) {
            possible.add(world);
        }
        gone = 0;
        nights = 0;
        whispers.clear();
        whisperedTo.clear();
    }

    Model copy() {
        Model m = new Model();
        m.people = people;
        m.marked = marked;
        m.mirrors = mirrors;
        m.stayers = stayers;
        m.blind = blind;
        m.ownLaw = ownLaw;
        m.sayings = sayings;
        m.possible = new TreeSet<>(possible);
        m.gone = gone;
        m.nights = nights;
        m.whispers = new ArrayList<>(whispers);
        m.whisperedTo = new ArrayList<>(whisperedTo);
        return m;
    }

    String text() {
        StringBuilder text = new StringBuilder();
        for (int one = 0; one < people; one++) {
            text.append("one ").append(name(one)).append((marked >> one & 1) == 1 ? " marked" : "")
                    .append((mirrors >> one & 1) == 1 ? " mirror" : "")
                    .append((stayers >> one & 1) == 1 ? " stays" : "").append(";\n");
        }
        for (int one = 0; one < people; one++) {
            for (int other = 0; other < people; other++) {
                if (blind[one][other]) {
                    text.append("blind ").append(name(one)).append(' ').append(name(other)).append(";");
                }
            }
        }
        text.append(ownLaw ? "law own;" : "");
        for (Formula f : sayings) {
            text.append("saying ").append(f.text()).append(";\n");
        }
        return text.toString();
    }

    boolean sees(int one, int other) {
        return one == other ? (mirrors >> one & 1) == 1 : !blind[one][other];
    }

    boolean like(int one, int a, int b) {
        for (int other = 0; other < people; other++) {
            if (sees(one, other) && (a >> other & 1) != (b >> other & 1)) {
                return false;
            }
        }
        for (int i = 0; i < whispers.size(); i++) {
            boolean heard = (whisperedTo.get(i) >> one & 1) == 1;
            if (heard && (whispers.get(i)[a] != 0) != (whispers.get(i)[b] != 0)) {
                return false;
            }
        }
        return true;
    }

    boolean knows(int one, int world, int[] values) {
        for (int other : possible) {
            if (like(one, world, other) && values[other] == 0) {
                return false;
            }
        }
        return true;
    }

    int[] allKnow(int[] values) {
        int[] known = new int[1 << people];
        for (int world : possible) {
            known[world] = 1;
            for (int one = 0; one < people && known[world] == 1; one++) {
                known[world] = knows(one, world, values) ? 1 : 0;
            }
        }
        return known;
    }

    int[] values(Formula f) {
        int[] a = f.a == null ? null : values(f.a);
        int[] b = f.b == null ? null : values(f.b);
        int[] values = new int[1 << people];
        if (f.kind.equals("all")) {
            return allKnow(a);
        }
        if (f.kind.equals("common")) {
            return common(a);
        }
        for (int world : possible) {
            values[world] = value(f, world, a, b);
        }
        return values;
    }

    private int[] common(int[] values) {
        int[] in = new int[1 << people];
        for (int world : possible) {
            in[world] = people == 0 && values[world] == 0 ? 0 : 1;
        }
        int[] deep = values;
        for (int i = 0; i <= possible.size(); i++) {
            deep = allKnow(deep);
            for (int world : possible) {
                in[world] &= deep[world];
            }
        }
        return in;
    }

    private int value(Formula f, int w, int[] a, int[] b) {
        switch (f.kind) {
            case "n":
                return f.of;
            case "marks":
                return Integer.bitCount(w);
            case "has":
                return w >> f.of & 1;
            case "gone":
                return gone >> f.of & 1;
            case "knows":
                return knows(f.of, w, a) ? 1 : 0;
            case "not":
                return a[w] == 0 ? 1 : 0;
            case "or":
                return a[w] != 0 || b[w] != 0 ? 1 : 0;
            case "and":
                return a[w] != 0 && b[w] != 0 ? 1 : 0;
            case "<":
                return a[w] < b[w] ? 1 : 0;
            case ">":
                return a[w] > b[w] ? 1 : 0;
            case "=":
                return a[w] == b[w] ? 1 : 0;
            case "+":
                return a[w] + b[w];
            case "-":
                return a[w] - b[w];
            case "*":
                return a[w] * b[w];
            case "/":
                return b[w] == 0 ? 0 : a[w] / b[w];
            default:
                throw new IllegalStateException(f.kind);
        }
    }

    int holds(Formula f) {
        int[] values = values(f);
        int so = 0;
        for (int world : possible) {
            so += values[world] != 0 ? 1 : 0;
        }
        return so;
    }

    int deep(Formula f) {
        int[] values = values(f);
        if (values[marked] == 0) {
            return -1;
        }
        if (common(values)[marked] == 1) {
            return 99;
        }
        for (int deep = 0; deep < 98; deep++) {
            values = allKnow(values);
            if (values[marked] == 0) {
                return deep;
            }
        }
        return 98;
    }

    int say(Formula f) {
        int[] values = values(f);
        if (values[marked] == 0) {
            return -1;
        }
        int before = possible.size();
        possible.removeIf(world -> values[world] == 0);
        return before - possible.size();
    }

    int whisper(Formula f, int to) {
        if (to < 0 || to >= 1 << people || whispers.size() == 8) {
            return -1;
        }
        int[] values = values(f);
        whispers.add(values);
        whisperedTo.add(to);
        return values[marked] != 0 ? 1 : 0;
    }

    int own(int one, int world) {
        int[] has = new int[1 << people];
        int[] hasNot = new int[1 << people];
        for (int other : possible) {
            has[other] = other >> one & 1;
            hasNot[other] = 1 - has[other];
        }
        if (knows(one, world, has)) {
            return 1;
        }
        return knows(one, world, hasNot) ? 0 : -2;
    }

    int goers(int world) {
        int goers = 0;
        for (int one = 0; one < people; one++) {
            if (((gone | stayers) >> one & 1) == 0) {
                int own = own(one, world);
                goers |= own == 1 || ownLaw && own == 0 ? 1 << one : 0;
            }
        }
        return goers;
    }

    int night() {
        int went = goers(marked);
        TreeSet<Integer> left = new TreeSet<>();
        for (int world : possible) {
            if (goers(world) == went) {
                left.add(world);
            }
        }
        possible = left;
        gone |= went;
        nights++;
        return went;
    }

    int when(int one) {
        if ((gone >> one & 1) == 1) {
            return -1;
        }
        Model m = copy();
        for (int night = 1; night < 1000; night++) {
            int before = m.possible.size();
            int went = m.night();
            if ((went >> one & 1) == 1) {
                return night;
            }
            if (went == 0 && m.possible.size() == before) {
                return -1;
            }
        }
        throw new IllegalStateException("no end");
    }

    int fewest(int set, int n) {
        int best = -1;
        for (int bits = 0; bits < 1 << sayings.size(); bits++) {
            boolean fewer = best == -1 || Integer.bitCount(bits) < Integer.bitCount(best);
            if (fewer && goBy(bits, n) == set) {
                best = bits;
            }
        }
        return best;
    }

    /** Who goes in n nights behind a set of sayings; -1 if one of them is not so. */
    private int goBy(int bits, int n) {
        Model m = copy();
        for (int i = 0; i < sayings.size(); i++) {
            if ((bits >> i & 1) == 1 && m.say(sayings.get(i)) == -1) {
                return -1;
            }
        }
        int all = 0;
        for (int night = 0; night < n; night++) {
            all |= m.night();
        }
        return all;
    }

    /** On which nights each goes, by world and saying (the last: nothing); null if it is not so. */
    int[][][] guesses() {
        int[][][] guesses = new int[sayings.size() + 1][1 << people][];
        for (int saying = 0; saying <= sayings.size(); saying++) {
            for (int world = 0; world < 1 << people; world++) {
                Model m = copy();
                m.marked = world;
                m.start();
                if (saying < sayings.size() && m.say(sayings.get(saying)) == -1) {
                    continue;
                }
                guesses[saying][world] = new int[people];
                for (int night = 1; night <= 12; night++) {
                    int went = m.night();
                    for (int one = 0; one < people; one++) {
                        guesses[saying][world][one] += (went >> one & 1) * night;
                    }
                }
            }
        }
        return guesses;
    }
}
