import java.util.Random;

/** A formula as a tree, made at random, with its text. */
final class Formula {
    final String kind;
    final int of;
    final Formula a;
    final Formula b;

    private Formula(String kind, int of, Formula a, Formula b) {
        this.kind = kind;
        this.of = of;
        this.a = a;
        this.b = b;
    }

    /** What is often said of marks, so that people go by it. */
    static Formula plain(Random random, int people) {
        Formula has = new Formula("has", random.nextInt(people), null, null);
        Formula some = new Formula(">", 0, new Formula("marks", 0, null, null),
                new Formula("n", random.nextInt(people), null, null));
        switch (random.nextInt(4)) {
            case 0:
                return has;
            case 1:
                return new Formula("not", 0, new Formula("knows", has.of, has, null), null);
            default:
                return some;
        }
    }

    /** One that is within the document's limits: 30 units, 7 within one another. */
    static Formula random(Random random, int people, int depth, int budget) {
        Formula f = any(random, people, depth, budget);
        while (f.units(0) > 30 || f.depth(0) > 7) {
            f = any(random, people, depth, budget);
        }
        return f;
    }

    /** Depth counts units with ( ) and nots on the way down, but for ( ) that only group. */
    private static Formula any(Random random, int people, int depth, int budget) {
        if (budget > 1 && random.nextInt(3) > 0) {
            String[] kinds = {"or", "and", "<", ">", "=", "+", "-", "*", "/", "and", "or", "=", ">"};
            int first = 1 + random.nextInt(budget - 1);
            return new Formula(kinds[random.nextInt(kinds.length)], 0, any(random, people, depth, first),
                    any(random, people, depth, budget - first));
        }
        if (depth > 0 && random.nextInt(3) > 0) {
            String[] kinds = {"not", "all", "common", "knows", "knows", "knows"};
            String kind = kinds[random.nextInt(people == 0 ? 3 : kinds.length)];
            return new Formula(kind, people == 0 ? 0 : random.nextInt(people),
                    any(random, people, depth - 1, budget), null);
        }
        if (people == 0 || random.nextInt(4) == 0) {
            return random.nextBoolean() ? new Formula("marks", 0, null, null)
                    : new Formula("n", random.nextInt(8) == 0 ? random.nextInt(10000) : random.nextInt(4), null, null);
        }
        return new Formula(random.nextInt(5) == 0 ? "gone" : "has", random.nextInt(people), null, null);
    }

    private int rank() {
        switch (kind) {
            case "or":
                return 0;
            case "and":
                return 1;
            case "not":
            case "<":
            case ">":
            case "=":
                return 2;
            case "+":
            case "-":
                return 3;
            case "*":
            case "/":
                return 4;
            default:
                return 5;
        }
    }

    private int left() {
        return rank() == 2 ? 3 : rank();
    }

    int units() {
        return units(0);
    }

    private int units(int place) {
        int own = rank() == 5 ? 1 : 0;
        int group = rank() < place ? 1 : 0;
        if (b != null) {
            return group + a.units(left()) + b.units(rank() + 1);
        }
        return group + own + (a == null ? 0 : a.units(own == 1 ? 0 : 2));
    }

    private int depth(int place) {
        int group = rank() < place ? 1 : 0;
        if (b != null) {
            return group + Math.max(a.depth(left()), b.depth(rank() + 1));
        }
        return group + (a == null ? 0 : 1 + a.depth(kind.equals("not") ? 2 : 0));
    }

    /** The text, in ( ) if it binds less than its place asks for. */
    String text(int place) {
        int rank = rank();
        String text;
        if (b != null) {
            text = a.text(left()) + " " + kind + " " + b.text(rank + 1);
        } else if (kind.equals("not")) {
            text = "not " + a.text(2);
        } else if (kind.equals("n")) {
            text = "" + of;
        } else if (kind.equals("marks")) {
            text = kind;
        } else {
            String name = kind.equals("all") || kind.equals("common") ? "" : " " + Model.name(of);
            text = kind + name + (a == null ? "" : "(" + a.text(0) + ")");
        }
        return rank < place ? "(" + text + ")" : text;
    }

    String text() {
        return text(0);
    }
}
