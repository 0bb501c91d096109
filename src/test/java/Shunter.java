import java.util.ArrayDeque;
import java.util.ArrayList;
import java.util.Deque;
import java.util.HashSet;
import java.util.List;
import java.util.Set;
import java.util.regex.Matcher;
import java.util.regex.Pattern;

/**
 * A second reader of islands and formulas, with a stack of its own instead of methods that call one
 * another: it tells the fault, its place and the units, and knows nothing of what they mean.
 */
final class Shunter {
    private static final Pattern PIECE = Pattern.compile("[ \\n]+|[a-z]+|[0-9]+[a-z]?|[;()<>=+*/-]|.", Pattern.DOTALL);
    private static final Set<String> OWN = Set.of("one", "marked", "mirror", "stays", "blind", "law", "has", "own",
            "saying", "or", "and", "not", "marks", "gone", "knows", "all", "common");

    private final List<String> tokens = new ArrayList<>();
    private final List<Integer> places = new ArrayList<>();
    private final List<String> names;
    private final int unitLimit;
    private int next = 0;
    int fault = 0;
    int place = -1;
    int units = 0;

    /** What waits in a formula for its end: a ( or a not; had: a relation stood before the (. */
    private record Open(boolean paren, boolean had) {
    }

    private Shunter(String text, List<String> names, int unitLimit) {
        this.names = names;
        this.unitLimit = unitLimit;
        Matcher piece = PIECE.matcher(text);
        while (piece.find()) {
            String token = piece.group();
            if (token.charAt(0) != ' ' && token.charAt(0) != '\n') {
                tokens.add(token.matches("[a-z]{1,8}|[0-9]{1,4}|[;()<>=+*/-]") ? token : "?");
                places.add(piece.start());
            }
        }
        tokens.add("");
        places.add(text.length());
    }

    static Shunter ofIsland(String text) {
        Shunter s = new Shunter(text, new ArrayList<>(), 60);
        s.island();
        return s;
    }

    static Shunter ofFormula(String text, List<String> names) {
        Shunter s = new Shunter(text, names, 30);
        s.formula();
        if (!s.token().isEmpty()) {
            s.fail(2);
        }
        return s;
    }

    private String token() {
        return tokens.get(next);
    }

    private void fail(int what) {
        if (fault == 0) {
            fault = token().equals("?") ? 1 : what;
            place = places.get(next);
        }
    }

    private boolean take(String... some) {
        for (String one : some) {
            if (fault == 0 && token().equals(one)) {
                next++;
                return true;
            }
        }
        return false;
    }

    private void need(String... some) {
        if (!take(some)) {
            fail(2);
        }
    }

    private boolean isName() {
        return token().matches("[a-z]+") && !OWN.contains(token());
    }

    private String name() {
        String name = token();
        if (!isName()) {
            fail(2);
        } else if (!names.contains(name)) {
            fail(4);
        } else if (fault == 0) {
            next++;
        }
        return name;
    }

    private void island() {
        int blinds = 0;
        int laws = 0;
        int sayings = 0;
        Set<String> pairs = new HashSet<>();
        while (fault == 0 && !token().isEmpty()) {
            String first = token();
            boolean late = blinds + laws + sayings > 0 || names.size() == 8;
            if (first.equals("one") && !late) {
                next++;
                person();
            } else if (first.equals("blind") && blinds < 30) {
                next++;
                blinds++;
                String one = name();
                String other = name();
                if (fault == 0 && (one.equals(other) || !pairs.add(one + " " + other))) {
                    next--;
                    fail(3);
                }
            } else if (first.equals("law") && laws == 0) {
                next++;
                laws++;
                need("has", "own");
            } else if (first.equals("saying") && sayings < 6) {
                next++;
                sayings++;
                formula();
            } else {
                fail(2);
            }
            need(";");
        }
    }

    private void person() {
        if (!isName()) {
            fail(2);
        } else if (names.contains(token())) {
            fail(3);
        } else {
            names.add(token());
            next++;
            take("marked");
            take("mirror");
            take("stays");
        }
    }

    private void formula() {
        Deque<Open> open = new ArrayDeque<>();
        boolean had = false;
        boolean mayNot = true;
        while (fault == 0) {
            if (mayNot && token().equals("not")) {
                push(open, new Open(false, false));
                next++;
                continue;
            }
            if (startUnit(open, had)) {
                had = false;
                mayNot = true;
                continue;
            }
            // behind a unit: what closes, then what joins
            while (fault == 0 && token().equals(")") && closesSome(open)) {
                dropNots(open);
                had = open.pop().had();
                next++;
            }
            if (take("and", "or")) {
                dropNots(open);
                had = false;
                mayNot = true;
            } else if (!had && take("<", ">", "=")) {
                had = true;
                mayNot = false;
            } else if (take("+", "-", "*", "/")) {
                mayNot = false;
            } else {
                if (closesSome(open)) {
                    fail(2);
                }
                return;
            }
        }
    }

    private void push(Deque<Open> open, Open one) {
        if (open.size() > 6) {
            fail(2);
        }
        open.push(one);
    }

    private boolean closesSome(Deque<Open> open) {
        return open.stream().anyMatch(Open::paren);
    }

    private void dropNots(Deque<Open> open) {
        while (!open.isEmpty() && !open.peek().paren()) {
            open.pop();
        }
    }

    /** A unit, up to its ( if it has one: then true. */
    private boolean startUnit(Deque<Open> open, boolean had) {
        String first = token();
        boolean opens = first.matches("knows|all|common|\\(");
        boolean unit = opens || first.matches("[0-9]+|marks|has|gone");
        if (!unit || units == unitLimit) {
            fail(2);
            return false;
        }
        units++;
        if (opens) {
            push(open, new Open(true, had));
        }
        if (fault != 0) {
            return false;
        }
        next++;
        if (first.matches("has|gone|knows")) {
            name();
        }
        if (opens && !first.equals("(")) {
            need("(");
        }
        return opens && fault == 0;
    }
}
