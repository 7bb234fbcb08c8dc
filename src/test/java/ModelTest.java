import java.lang.reflect.InvocationTargetException;
import java.lang.reflect.Method;
import java.util.ArrayList;
import java.util.Arrays;
import java.util.List;
import java.util.Random;

/** Runs of drawn calls on a WellQueue and on a Model: each answers or throws what the other one does. */
final class ModelTest {
    private static final String NAMES = "good worth age gold place others total day";
    private final Random random;
    private final WellQueue x = new WellQueue();
    private final Model model = new Model();
    private final List<String> calls = new ArrayList<>();
    private final List<Method> deeds = new ArrayList<>();

    private ModelTest(long seed) {
        random = new Random(seed);
        for (Method method : WellQueue.class.getDeclaredMethods()) {
            if (java.lang.reflect.Modifier.isPublic(method.getModifiers())) {
                deeds.add(method);
            }
        }
        deeds.sort((a, b) -> a.getName().compareTo(b.getName()));
    }

    public static void main(String[] args) throws ReflectiveOperationException {
        int runs = args.length > 0 ? Integer.parseInt(args[0]) : 400;
        int first = args.length > 1 ? Integer.parseInt(args[1]) : 0;
        long asked = 0;
        for (int seed = first; seed < first + runs && Check.wrong() == 0; seed++) {
            ModelTest test = new ModelTest(seed);
            test.runAll();
            asked += test.calls.size();
        }
        System.out.println(asked + " calls in drawn runs");
        Check.end();
    }

    private int below(int bound) {
        return random.nextInt(bound);
    }

    private boolean chance(int percent) {
        return below(100) < percent;
    }

    private void runAll() throws ReflectiveOperationException {
        if (chance(95)) {
            bring(well());
        }
        for (int i = 0; i < 300 && Check.wrong() == 0; i++) {
            int kind = below(100);
            if (kind < 3) {
                bring(well());
            } else if (kind < 7) {
                bring(spoilt(well()));
            } else if (kind < 12) {
                fillTray();
            } else {
                drawnCall();
            }
        }
    }

    // ---- calls

    private Object answer(Object target, Method method, Object[] args) throws ReflectiveOperationException {
        try {
            Method twin = target.getClass().getDeclaredMethod(method.getName(), method.getParameterTypes());
            return twin.invoke(target, args);
        } catch (InvocationTargetException e) {
            return "throws " + e.getCause().getClass().getName();
        }
    }

    private void both(Method method, Object... args) throws ReflectiveOperationException {
        Object got = answer(x, method, args);
        Object want = answer(model, method, args);
        calls.add(method.getName() + Arrays.toString(args) + " = " + got);
        boolean same = got == null ? want == null : got.equals(want);
        if (!same) {
            for (String call : calls) {
                System.out.println("  " + call);
            }
            Check.fail("the last one: due is " + want);
        }
    }

    private void both(String name, Object... args) throws ReflectiveOperationException {
        for (Method method : deeds) {
            if (method.getName().equals(name)) {
                both(method, args);
            }
        }
    }

    private void bring(String text) throws ReflectiveOperationException {
        calls.add("-- " + text.replace("\n", "\\n"));
        int had = x.count(11);
        for (int i = 0; i < text.length(); i += 20) {
            int[] five = new int[5];
            for (int k = 0; k < 20; k++) {
                five[k / 4] = five[k / 4] << 8 | (i + k < text.length() ? text.charAt(i + k) : 32);
            }
            both("feed", five[0], five[1], five[2], five[3], five[4]);
        }
        both("well", had == 0 ? text.length() : x.count(11));
        both("fault", 0);
        both("fault", 1);
    }

    private void fillTray() throws ReflectiveOperationException {
        int tray = below(4);
        int kind = below(3);
        int many = kind == 0 && chance(70) ? x.count(3) : below(10);
        both("tray", tray, below(4), many);
        for (int i = 0; i < many; i++) {
            long number = kind == 0 ? below(4) - 2
                    : kind == 1 ? below(20)
                    : chance(30) ? -1 : below(2) * 100 + below(Math.max(1, x.count(2))) * 10 + below(chance(80) ? 2 : 8);
            both("write", tray, i, chance(3) ? random.nextLong() : number);
        }
        if (kind == 0) {
            if (chance(50)) {
                both("pour", tray);
                for (int i = 0; i < many; i++) {
                    if (chance(40)) {
                        both("write", tray, i, -1L);
                    }
                }
            }
            secretsOf(tray);
        } else if (kind == 1) {
            both("auction", below(8), tray);
        } else {
            for (int what = 0; what < 4; what++) {
                both("judge", tray, what);
            }
            both("perform", tray);
        }
    }

    private void secretsOf(int tray) throws ReflectiveOperationException {
        if (model.tried() > Model.MOST_TRIED) {
            return;
        }
        both("secrets", tray);
        for (int place = -1; place <= x.count(3); place++) {
            both("sure", tray, place);
        }
    }

    private void drawnCall() throws ReflectiveOperationException {
        Method method = deeds.get(below(deeds.size()));
        String name = method.getName();
        boolean slow = List.of("best", "orders", "standBest").contains(name) && x.count(3) > 6;
        boolean many = List.of("secrets", "sure").contains(name) && model.tried() > Model.MOST_TRIED;
        if (name.equals("feed") || (slow && !chance(1)) || many) {
            return;
        }
        Object[] args = new Object[method.getParameterCount()];
        for (int i = 0; i < args.length; i++) {
            Class<?> type = method.getParameterTypes()[i];
            args[i] = type == boolean.class ? (Object) random.nextBoolean()
                    : type == long.class ? (Object) (long) number(name, i)
                    : (Object) number(name, i);
        }
        both(method, args);
    }

    private int number(String name, int i) {
        if (chance(2)) {
            return chance(50) ? random.nextInt() : chance(50) ? Integer.MAX_VALUE : Integer.MIN_VALUE;
        }
        boolean ofSet = List.of("plot", "promise", "worthOf").contains(name) && i == 0;
        if (ofSet) {
            return chance(10) ? below(256) : setOf(name.equals("plot") ? 1 + below(3) : below(9));
        }
        switch (name) {
            case "best":
            case "settles":
                return chance(50) ? below(3) : 9 + below(10);
            case "plot":
                return i == 1 ? below(Math.max(1, x.count(2))) : chance(50) ? 0 : 9 + below(4);
            case "promise":
                return below(3);
            case "orders":
                return below(60) - 30;
            case "season":
                return i == 0 ? random.nextInt() : below(12);
            case "days":
                return chance(80) ? 1 + below(3) : below(62);
            case "undo":
                return chance(80) ? 1 : below(14);
            case "count":
                return below(15) - 1;
            case "well":
                return below(30);
            default:
                return chance(95) ? below(Math.max(2, x.count(2))) : below(12) - 2;
        }
    }

    private int setOf(int many) {
        int set = 0;
        for (int i = 0; i < many && x.count(3) > 0; i++) {
            set |= 1 << x.at(below(x.count(3)));
        }
        return set;
    }

    // ---- texts

    private String blank() {
        return chance(70) ? " " : chance(50) ? "\n" : "  ";
    }

    private String well() {
        StringBuilder text = new StringBuilder();
        int goods = chance(70) ? 1 + below(3) : 1 + below(6);
        int people = chance(80) ? 1 + below(6) : below(9);
        text.append("goods ").append(goods).append(";");
        boolean law = chance(60);
        for (int p = 0; p < people; p++) {
            text.append("person age ").append(below(4) * 10).append(blank()).append("gold ").append(below(20));
            text.append(blank()).append("asks ").append(below(goods)).append(" worth");
            for (int g = 0; g < goods; g++) {
                text.append(chance(70) ? " " : " -").append(below(chance(90) ? 10 : 100));
            }
            text.append(";");
        }
        for (int i = below(4); people > 1 && i > 0; i--) {
            int p = below(people);
            text.append("apart ").append(p).append(" ").append((p + 1 + below(people - 1)) % people).append(";");
        }
        for (int i = below(7); people > 1 && i > 0; i--) {
            int p = below(people);
            text.append("likes ").append(p).append(" ").append((p + 1 + below(people - 1)) % people);
            text.append(chance(60) ? " " : "-").append(below(10)).append(";");
        }
        if (chance(60)) {
            text.append(chance(50) ? "behind " + (1 + below(2)) + ";" : "middle;");
        }
        if (chance(30)) {
            text.append("ring;");
        }
        if (chance(50)) {
            text.append("night;");
        }
        if (chance(60)) {
            text.append("ruin ").append(1 + below(chance(70) ? 15 : 90)).append(";");
        }
        if (law) {
            text.append("law ").append(truth(3)).append(";");
        }
        return text.length() > 900 ? "goods 1;" : text.toString();
    }

    private String truth(int depth) {
        int kind = depth == 0 ? 9 : below(10);
        if (kind < 2) {
            return truth(depth - 1) + " or " + truth(depth - 1);
        }
        if (kind < 3) {
            return truth(depth - 1) + " and " + truth(depth - 1);
        }
        if (kind < 4) {
            return "not " + truth(depth - 1);
        }
        if (kind < 5) {
            return "[" + truth(depth - 1) + "]";
        }
        return sum(2) + "=<>".charAt(below(3)) + sum(2);
    }

    private String sum(int depth) {
        int kind = depth == 0 ? 9 : below(10);
        if (kind < 4) {
            return sum(depth - 1) + "+-*".charAt(below(3)) + sum(depth - 1);
        }
        if (kind < 5) {
            return "(" + sum(depth - 1) + ")";
        }
        return chance(40) ? "" + below(chance(80) ? 6 : 1000) : NAMES.split(" ")[below(8)];
    }

    private String spoilt(String text) {
        StringBuilder other = new StringBuilder(text);
        for (int i = 1 + below(2); i > 0; i--) {
            int at = below(other.length() + 1);
            int kind = below(4);
            if (kind == 0 && at < other.length()) {
                other.deleteCharAt(at);
            } else if (kind == 1 && at < other.length()) {
                other.setCharAt(at, sign());
            } else if (kind == 2) {
                other.insert(at, sign());
            } else {
                String[] words = (NAMES + " goods person apart likes ring night law not and or ( [ ) ] 7 99 1000").split(" ");
                other.insert(at, " " + words[below(words.length)] + " ");
            }
        }
        return other.length() > 900 ? "goods" : other.toString();
    }

    private char sign() {
        return chance(90) ? ";+-*()[]=<>09 az".charAt(below(16)) : (char) below(256);
    }
}
