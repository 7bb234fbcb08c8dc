import java.util.ArrayList;
import java.util.List;
import java.util.Map;
import java.util.function.Predicate;
import java.util.function.ToIntFunction;
import java.util.regex.Matcher;
import java.util.regex.Pattern;

/** THE WELL's text, read a second time: all TOKENS first, then a law that is a tree of functions. */
final class ModelText {
    private static final Pattern TOKEN = Pattern.compile("[a-z]+|[0-9]+|[;+\\-*()\\[\\]=<>]|[^ \\n]");
    private static final List<String> NAMES =
            List.of("good", "worth", "age", "gold", "place", "others", "total", "day");

    int lines = 0;
    int goods = 0;
    int way = 1;
    int ruin = 0;
    boolean night = false;
    boolean ring = false;
    Predicate<Map<String, Integer>> law = null;
    final List<Integer> age = new ArrayList<>();
    final List<Integer> gold = new ArrayList<>();
    final List<Integer> asks = new ArrayList<>();
    final List<int[]> worth = new ArrayList<>();
    private final List<int[]> aparts = new ArrayList<>();
    private final List<int[]> likings = new ArrayList<>();
    private final List<String> tokens = new ArrayList<>();
    private final List<Integer> places = new ArrayList<>();
    private int next = 0;
    private int deep = 0;

    static final class Fault extends Exception {
        private static final long serialVersionUID = 1L;
        final int kind;
        final int place;

        Fault(int kind, int place) {
            this.kind = kind;
            this.place = place;
        }
    }

    int people() {
        return age.size();
    }

    boolean apart(int p, int q) {
        return aparts.stream().anyMatch(a -> (a[0] == p && a[1] == q) || (a[0] == q && a[1] == p));
    }

    int likes(int p, int q) {
        int much = 0;
        for (int[] liking : likings) {
            if (liking[0] == p && liking[1] == q) {
                much = liking[2];
            }
        }
        return much;
    }

    void read(String text) throws Fault {
        Matcher matcher = TOKEN.matcher(text);
        while (matcher.find()) {
            tokens.add(matcher.group());
            places.add(matcher.start());
        }
        tokens.add("");
        places.add(text.length());
        word("goods");
        goods = number(1, 6);
        word(";");
        lines = 1;
        while (!is("")) {
            line();
            word(";");
            lines++;
        }
    }

    private boolean is(String token) {
        return tokens.get(next).equals(token);
    }

    private Fault fault(int kind) {
        String token = tokens.get(next);
        boolean bad = !token.isEmpty() && !token.matches("[a-z]+|[0-9]{1,3}|[;+\\-*()\\[\\]=<>]");
        return new Fault(bad ? 1 : kind, places.get(next));
    }

    private void word(String token) throws Fault {
        if (!is(token)) {
            throw fault(2);
        }
        next++;
    }

    private boolean taken(String token) {
        if (!is(token)) {
            return false;
        }
        next++;
        return true;
    }

    private boolean isNumber() {
        return tokens.get(next).matches("[0-9]{1,3}");
    }

    private int number(int least, int most) throws Fault {
        if (!isNumber()) {
            throw fault(2);
        }
        int number = Integer.parseInt(tokens.get(next));
        if (number < least || number > most) {
            throw fault(3);
        }
        next++;
        return number;
    }

    private int signed(int most) throws Fault {
        return taken("-") ? -number(0, most) : number(0, most);
    }

    private int[] two() throws Fault {
        int one = number(0, people() - 1);
        int other = number(0, people() - 1);
        if (one == other) {
            next--;
            throw fault(3);
        }
        return new int[] {one, other};
    }

    private void line() throws Fault {
        if (is("person")) {
            if (people() == 8) {
                throw fault(4);
            }
            next++;
            word("age");
            int itsAge = number(0, 99);
            word("gold");
            int itsGold = number(0, 999);
            word("asks");
            int itAsks = number(0, goods - 1);
            word("worth");
            int[] worths = new int[goods];
            for (int g = 0; g < goods; g++) {
                worths[g] = signed(99);
            }
            age.add(itsAge);
            gold.add(itsGold);
            asks.add(itAsks);
            worth.add(worths);
        } else if (is("apart")) {
            if (aparts.size() == 8) {
                throw fault(4);
            }
            next++;
            aparts.add(two());
        } else if (taken("likes")) {
            int[] two = two();
            likings.add(new int[] {two[0], two[1], signed(9)});
        } else if (taken("behind")) {
            way = number(1, 2);
        } else if (taken("middle")) {
            way = 3;
        } else if (taken("ring")) {
            ring = true;
        } else if (taken("night")) {
            night = true;
        } else if (taken("ruin")) {
            ruin = number(1, 999);
        } else if (taken("law")) {
            law = truth();
        } else {
            throw fault(2);
        }
    }

    private void deeper() throws Fault {
        if (deep == 6) {
            throw fault(4);
        }
        deep++;
        next++;
    }

    private Predicate<Map<String, Integer>> truth() throws Fault {
        Predicate<Map<String, Integer>> all = both();
        while (taken("or")) {
            all = all.or(both());
        }
        return all;
    }

    private Predicate<Map<String, Integer>> both() throws Fault {
        Predicate<Map<String, Integer>> all = unit();
        while (taken("and")) {
            all = all.and(unit());
        }
        return all;
    }

    private Predicate<Map<String, Integer>> unit() throws Fault {
        if (is("not")) {
            deeper();
            Predicate<Map<String, Integer>> inner = unit();
            deep--;
            return inner.negate();
        }
        if (is("[")) {
            deeper();
            Predicate<Map<String, Integer>> inner = truth();
            word("]");
            deep--;
            return inner;
        }
        ToIntFunction<Map<String, Integer>> left = sum();
        String sign = tokens.get(next);
        if (!is("=") && !is("<") && !is(">")) {
            throw fault(2);
        }
        next++;
        ToIntFunction<Map<String, Integer>> right = sum();
        return names -> {
            int order = Integer.compare(left.applyAsInt(names), right.applyAsInt(names));
            return sign.equals("=") ? order == 0 : sign.equals("<") ? order < 0 : order > 0;
        };
    }

    private static int kept(long number) {
        return (int) Math.max(-1000000, Math.min(1000000, number));
    }

    private ToIntFunction<Map<String, Integer>> sum() throws Fault {
        ToIntFunction<Map<String, Integer>> all = term();
        while (is("+") || is("-")) {
            int sign = is("+") ? 1 : -1;
            next++;
            ToIntFunction<Map<String, Integer>> left = all;
            ToIntFunction<Map<String, Integer>> right = term();
            all = names -> kept((long) left.applyAsInt(names) + sign * (long) right.applyAsInt(names));
        }
        return all;
    }

    private ToIntFunction<Map<String, Integer>> term() throws Fault {
        ToIntFunction<Map<String, Integer>> all = atom();
        while (taken("*")) {
            ToIntFunction<Map<String, Integer>> left = all;
            ToIntFunction<Map<String, Integer>> right = atom();
            all = names -> kept((long) left.applyAsInt(names) * right.applyAsInt(names));
        }
        return all;
    }

    private ToIntFunction<Map<String, Integer>> atom() throws Fault {
        if (is("(")) {
            deeper();
            ToIntFunction<Map<String, Integer>> inner = sum();
            word(")");
            deep--;
            return inner;
        }
        if (isNumber()) {
            int number = number(0, 999);
            return names -> number;
        }
        String name = tokens.get(next);
        if (!NAMES.contains(name)) {
            throw fault(2);
        }
        next++;
        return names -> names.get(name);
    }
}
