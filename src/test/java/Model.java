import java.io.ByteArrayOutputStream;
import java.nio.charset.StandardCharsets;
import java.util.ArrayList;
import java.util.Arrays;
import java.util.Collections;
import java.util.HashMap;
import java.util.LinkedList;
import java.util.List;
import java.util.Map;
import java.util.NoSuchElementException;
import java.util.TreeSet;
import java.util.function.ToIntFunction;

/** The document read a second time: every answer by trying all there is, with no thought of speed. */
final class Model {
    /** More ways to have ASKED than this are not tried. */
    static final int MOST_TRIED = 20000;

    private ByteArrayOutputStream tape = new ByteArrayOutputStream();
    private int fault = 0;
    private int faultPlace = -1;
    private ModelText told = new ModelText();
    private S s = new S();
    private LinkedList<S> deeds = new LinkedList<>();
    private final long[][] trays = new long[4][];
    private final int[] sorts = new int[4];
    private final Object[][] images = new Object[3][];

    /** What DEEDS change. */
    static final class S {
        List<Integer> queue = new ArrayList<>();
        int[] asks = new int[0];
        int[] gold = new int[0];
        int[] total = new int[0];
        int day = 0;
        boolean ring = false;
        List<Integer> yesterday = new ArrayList<>();

        S copy() {
            S c = new S();
            c.queue = new ArrayList<>(queue);
            c.asks = asks.clone();
            c.gold = gold.clone();
            c.total = total.clone();
            c.day = day;
            c.ring = ring;
            c.yesterday = new ArrayList<>(yesterday);
            return c;
        }
    }

    // ---- falling

    private boolean holds(S at, int p, int g) {
        Map<String, Integer> names = new HashMap<>();
        int place = at.queue.indexOf(p);
        names.put("good", g);
        names.put("worth", told.worth.get(p)[g]);
        names.put("age", told.age.get(p));
        names.put("gold", at.gold[p]);
        names.put("total", at.total[p]);
        names.put("place", place);
        names.put("others", at.queue.size() - 1 - place);
        names.put("day", at.day % 10);
        return told.law == null || told.law.test(names);
    }

    private List<Integer> asked(S at) {
        List<Integer> row = new ArrayList<>();
        for (int p : at.queue) {
            row.add(holds(at, p, at.asks[p]) ? at.asks[p] : -1);
        }
        return row;
    }

    /** Null: nobody stands there. */
    private Integer ahead(S at, List<Integer> row, int place) {
        if (place >= 0) {
            return row.get(place);
        }
        if (at.ring) {
            return ahead(at, row, place + row.size());
        }
        if (!told.night) {
            return null;
        }
        int there = at.yesterday.size() + place;
        return there < 0 ? null : at.yesterday.get(there);
    }

    private List<Integer> falls(S at, List<Integer> row, int way) {
        List<Integer> falls = new ArrayList<>();
        for (int place = 0; place < row.size(); place++) {
            List<Integer> those = new ArrayList<>();
            for (int k = way == 3 ? 1 : way; k <= way; k++) {
                those.add(ahead(at, row, place - k));
            }
            if (those.contains(null)) {
                falls.add(-1);
            } else {
                Collections.sort(those);
                falls.add(those.get(those.size() / 2));
            }
        }
        return falls;
    }

    private int worthTo(int p, int g) {
        return g < 0 ? 0 : told.worth.get(p)[g];
    }

    /** What FALLS to each PERSON, worth to it, by a row of what is ASKED. */
    private int[] worths(S at, List<Integer> row, int way) {
        int[] worths = new int[told.people()];
        List<Integer> falls = falls(at, row, way);
        for (int place = 0; place < row.size(); place++) {
            int p = at.queue.get(place);
            worths[p] = worthTo(p, falls.get(place));
        }
        return worths;
    }

    private int[] worths(S at) {
        return worths(at, asked(at), told.way);
    }

    private static int sum(int[] row) {
        return Arrays.stream(row).sum();
    }

    private int liking(S at, List<Integer> row, int p) {
        int[] worths = worths(at, row, told.way);
        int sum = worths[p];
        for (int q : at.queue) {
            if (q != p) {
                sum += worths[q] * told.likes(p, q);
            }
        }
        return sum;
    }

    private int dayOf(S at) {
        List<Integer> row = asked(at);
        int[] worths = worths(at, row, told.way);
        for (int p : at.queue) {
            at.total[p] += worths[p];
        }
        at.day++;
        at.yesterday = row;
        at.queue.removeIf(p -> told.ruin > 0 && at.total[p] <= 0 - told.ruin);
        return sum(worths);
    }

    private static void shift(S at, int p, int place) {
        at.queue.remove((Integer) p);
        at.queue.add(place, p);
    }

    private S moved(int p, int place) {
        S c = s.copy();
        shift(c, p, place);
        return c;
    }

    private void deed() {
        deeds.addLast(s.copy());
        if (deeds.size() > 12) {
            deeds.removeFirst();
        }
    }

    // ---- throws

    private void person(int p) {
        if (p < 0 || p >= told.people()) {
            throw new NoSuchElementException();
        }
    }

    private void good(int g) {
        if (g < 0 || g >= told.goods) {
            throw new NoSuchElementException();
        }
    }

    private void queued(int p) {
        if (!s.queue.contains(p)) {
            throw new IllegalStateException();
        }
    }

    private static void argument(boolean fine) {
        if (!fine) {
            throw new IllegalArgumentException();
        }
    }

    private void place(int place) {
        argument(place >= 0 && place < s.queue.size());
    }

    private long[] row(int tray) {
        if (tray < 0 || tray > 3) {
            throw new NoSuchElementException();
        }
        if (trays[tray] == null) {
            throw new IllegalStateException();
        }
        return trays[tray];
    }

    private List<Integer> set(int set, int fewest, int most) {
        List<Integer> those = new ArrayList<>();
        for (int p = 0; p < 32; p++) {
            if ((set >>> p & 1) == 1) {
                those.add(p);
                argument(s.queue.contains(p));
            }
        }
        argument(those.size() >= fewest && those.size() <= most);
        return those;
    }

    // ---- the well

    int feed(int a, int b, int c, int d, int e) {
        if (tape.size() + 20 > 900) {
            return -1;
        }
        for (int four : new int[] {a, b, c, d, e}) {
            tape.write(four >>> 24);
            tape.write(four >>> 16);
            tape.write(four >>> 8);
            tape.write(four);
        }
        return tape.size();
    }

    int well(int n) {
        argument(n >= 0 && n <= tape.size());
        String text = new String(tape.toByteArray(), 0, n, StandardCharsets.ISO_8859_1);
        tape = new ByteArrayOutputStream();
        fault = 0;
        faultPlace = -1;
        ModelText next = new ModelText();
        try {
            next.read(text);
        } catch (ModelText.Fault e) {
            fault = e.kind;
            faultPlace = e.place;
            return -10 - fault;
        }
        told = next;
        s = new S();
        s.ring = next.ring;
        s.asks = next.asks.stream().mapToInt(x -> x).toArray();
        s.gold = next.gold.stream().mapToInt(x -> x).toArray();
        s.total = new int[next.people()];
        for (int p = 0; p < next.people(); p++) {
            s.queue.add(p);
        }
        deeds = new LinkedList<>();
        return told.lines;
    }

    int fault(int what) {
        return what == 0 ? fault : what == 1 ? faultPlace : -1;
    }

    int person(int p, int what) {
        person(p);
        argument(what >= 0 && what <= 6);
        int place = s.queue.indexOf(p);
        switch (what) {
            case 0:
                return place;
            case 1:
                return s.asks[p];
            case 2:
                return told.age.get(p);
            case 3:
                return s.gold[p];
            case 4:
                return s.total[p];
            case 5:
                return place < 0 ? -1 : falls(s, asked(s), told.way).get(place);
            default:
                return place >= 0 && holds(s, p, s.asks[p]) ? 1 : 0;
        }
    }

    int worth(int p, int g) {
        person(p);
        good(g);
        return told.worth.get(p)[g];
    }

    int likes(int p, int q) {
        person(p);
        person(q);
        argument(p != q);
        return told.likes(p, q);
    }

    int at(int place) {
        if (place < 0 || place >= s.queue.size()) {
            throw new NoSuchElementException();
        }
        return s.queue.get(place);
    }

    boolean allowed(int p, int g) {
        person(p);
        good(g);
        queued(p);
        return holds(s, p, g);
    }

    int today() {
        return sum(worths(s));
    }

    int liking(int p) {
        person(p);
        queued(p);
        return liking(s, asked(s), p);
    }

    // ---- deeds

    int ask(int p, int g) {
        person(p);
        good(g);
        queued(p);
        deed();
        s.asks[p] = g;
        return holds(s, p, g) ? 1 : 0;
    }

    int days(int n) {
        argument(n >= 1 && n <= 60);
        deed();
        int fell = 0;
        for (int i = 0; i < n; i++) {
            fell += dayOf(s);
        }
        return fell;
    }

    int leave(int p) {
        person(p);
        queued(p);
        deed();
        s.queue.remove((Integer) p);
        return s.queue.size();
    }

    int join(int p) {
        person(p);
        if (s.queue.contains(p)) {
            throw new IllegalStateException();
        }
        deed();
        s.queue.add(p);
        return s.queue.size() - 1;
    }

    int move(int p, int place) {
        person(p);
        queued(p);
        place(place);
        deed();
        shift(s, p, place);
        return worths(s)[p];
    }

    int trade(int place) {
        argument(place >= 0 && place < s.queue.size() - 1);
        int a = s.queue.get(place);
        int b = s.queue.get(place + 1);
        S then = s.copy();
        Collections.swap(then.queue, place, place + 1);
        int gainA = worths(then)[a] - worths(s)[a];
        int gainB = worths(then)[b] - worths(s)[b];
        if (gainA + gainB <= 0) {
            return 0;
        }
        int payer = gainA >= gainB ? a : b;
        int paid = payer == a ? b : a;
        int pays = (Math.max(gainA, gainB) - Math.min(gainA, gainB)) / 2;
        if (s.gold[payer] < pays) {
            return 0;
        }
        deed();
        then.gold[payer] -= pays;
        then.gold[paid] += pays;
        s = then;
        return gainA + gainB;
    }

    int trades() {
        int many = 0;
        for (int place = 0; place < s.queue.size() - 1 && many < 50; place++) {
            if (trade(place) > 0) {
                many++;
                place = -1;
            }
        }
        return many;
    }

    int auction(int place, int tray) {
        long[] bids = row(tray);
        place(place);
        List<Integer> bidders = new ArrayList<>();
        for (int p = 0; p < Math.min(bids.length, told.people()); p++) {
            if (s.queue.contains(p) && bids[p] >= 1 && bids[p] <= s.gold[p]) {
                bidders.add(p);
            }
        }
        if (bidders.isEmpty()) {
            return -1;
        }
        bidders.sort((p, q) -> bids[p] != bids[q] ? Long.compare(bids[q], bids[p])
                : told.age.get(q) - told.age.get(p));
        int winner = bidders.get(0);
        int second = bidders.size() > 1 ? (int) bids[bidders.get(1)] : 0;
        int holder = s.queue.get(place);
        deed();
        if (winner != holder) {
            s.gold[winner] -= second;
            s.gold[holder] += second;
        }
        shift(s, winner, place);
        return winner;
    }

    int ring() {
        deed();
        s.ring = !s.ring;
        return s.ring ? 1 : 0;
    }

    int undo(int n) {
        argument(n >= 1 && n <= 12 && n <= deeds.size());
        for (int i = 0; i < n; i++) {
            s = deeds.removeLast();
        }
        return deeds.size();
    }

    private int why(long told100, S at) {
        if (told100 == -1) {
            return 0;
        }
        if (told100 < 0 || told100 > 199) {
            return 1;
        }
        boolean moves = told100 >= 100;
        int p = (int) (told100 - (moves ? 100 : 0)) / 10;
        int x = (int) told100 % 10;
        if (p >= told.people() || x >= (moves ? at.queue.size() : told.goods)) {
            return 1;
        }
        return at.queue.contains(p) ? 0 : 2;
    }

    private int make(long told100, S at) {
        if (told100 == -1) {
            return dayOf(at);
        }
        if (told100 < 100) {
            at.asks[(int) told100 / 10] = (int) told100 % 10;
        } else {
            shift(at, (int) (told100 - 100) / 10, (int) told100 % 10);
        }
        return 0;
    }

    int judge(int tray, int what) {
        long[] row = row(tray);
        argument(what >= 0 && what <= 3);
        S at = s.copy();
        int fell = 0;
        int stuck = -1;
        for (int i = 0; i < row.length && stuck < 0; i++) {
            if (why(row[i], at) != 0) {
                stuck = i;
            } else {
                fell += make(row[i], at);
            }
        }
        int why = stuck < 0 ? 0 : why(row[stuck], at);
        return what == 0 ? stuck : what == 1 ? why : what == 2 ? fell : at.queue.size();
    }

    int perform(int tray) {
        long[] row = row(tray);
        int made = 0;
        while (made < row.length && why(row[made], s) == 0) {
            deed();
            make(row[made], s);
            made++;
        }
        return made;
    }

    int season(int seed, int times) {
        argument(times >= 1 && times <= 30);
        if (told.people() == 0) {
            throw new IllegalStateException();
        }
        int[] x = {seed};
        ToIntFunction<Integer> draw = modulo -> {
            x[0] = 1103515245 * x[0] + 12345;
            return (x[0] >>> 16) % modulo;
        };
        int many = 0;
        for (int i = 0; i < times; i++) {
            int kind = draw.applyAsInt(3);
            if (kind == 0) {
                deed();
                dayOf(s);
                many++;
                continue;
            }
            int p = draw.applyAsInt(told.people());
            int aim = draw.applyAsInt(kind == 1 ? told.goods : told.people());
            if (!s.queue.contains(p) || (kind == 2 && aim >= s.queue.size())) {
                continue;
            }
            deed();
            if (kind == 1) {
                s.asks[p] = aim;
            } else {
                shift(s, p, aim);
            }
            many++;
        }
        return many;
    }

    // ---- orders

    private static List<List<Integer>> rows(List<Integer> of) {
        List<List<Integer>> all = new ArrayList<>();
        if (of.isEmpty()) {
            all.add(new ArrayList<>());
        }
        for (Integer first : new TreeSet<>(of)) {
            List<Integer> rest = new ArrayList<>(of);
            rest.remove(first);
            for (List<Integer> tail : rows(rest)) {
                List<Integer> row = new ArrayList<>();
                row.add(first);
                row.addAll(tail);
                all.add(row);
            }
        }
        return all;
    }

    private List<S> orders() {
        List<S> all = new ArrayList<>();
        for (List<Integer> row : rows(s.queue)) {
            boolean fine = true;
            for (int i = 1; i < row.size(); i++) {
                fine &= !told.apart(row.get(i - 1), row.get(i));
            }
            if (fine) {
                S c = s.copy();
                c.queue = row;
                all.add(c);
            }
        }
        return all;
    }

    private S bestOrder() {
        S best = null;
        for (S c : orders()) {
            if (best == null || sum(worths(c)) > sum(worths(best))) {
                best = c;
            }
        }
        return best;
    }

    int best(int what) {
        argument(what == 0 || (what >= 10 && what <= 17));
        S best = bestOrder();
        if (best == null) {
            return -1;
        }
        if (what == 0) {
            return sum(worths(best));
        }
        return what - 10 < best.queue.size() ? best.queue.get(what - 10) : -1;
    }

    int orders(int least) {
        return (int) orders().stream().filter(c -> sum(worths(c)) >= least).count();
    }

    int standBest() {
        S best = bestOrder();
        if (best == null || s.queue.isEmpty()) {
            throw new IllegalStateException();
        }
        deed();
        s = best;
        return today();
    }

    // ---- what is asked

    private List<Integer> with(List<Integer> row, S at, int p, int g) {
        List<Integer> other = new ArrayList<>(row);
        other.set(at.queue.indexOf(p), g);
        return other;
    }

    private List<Integer> goodsOf(S at, int p) {
        List<Integer> goods = new ArrayList<>();
        for (int g = 0; g < told.goods; g++) {
            if (holds(at, p, g)) {
                goods.add(g);
            }
        }
        return goods;
    }

    int kindest(int p, boolean kind) {
        person(p);
        queued(p);
        int found = -1;
        int falls = 0;
        for (int g : goodsOf(s, p)) {
            int[] worths = worths(s, with(asked(s), s, p, g), told.way);
            int others = sum(worths) - worths[p];
            if (found < 0 || (kind ? others > falls : others < falls)) {
                found = g;
                falls = others;
            }
        }
        return found;
    }

    private int likedBest(S at, List<Integer> row, int p) {
        int found = -1;
        int most = liking(at, row, p);
        for (int g : goodsOf(at, p)) {
            int then = liking(at, with(row, at, p, g), p);
            if (then > most) {
                most = then;
                found = g;
            }
        }
        return found;
    }

    int settles(int what) {
        argument((what >= 0 && what <= 2) || (what >= 10 && what < 10 + told.people()));
        S at = s.copy();
        int rounds = 0;
        boolean changed = true;
        while (changed && rounds < 30) {
            rounds++;
            changed = false;
            for (int p : at.queue) {
                int g = likedBest(at, asked(at), p);
                if (g >= 0) {
                    at.asks[p] = g;
                    changed = true;
                }
            }
        }
        return what == 0 ? rounds : what == 1 ? (changed ? 0 : 1) : what == 2 ? sum(worths(at)) : at.asks[what - 10];
    }

    int plot(int set, int victim, int what) {
        person(victim);
        queued(victim);
        List<Integer> those = set(set, 1, 3);
        argument(!those.contains(victim));
        argument(what == 0 || (what >= 10 && what < 10 + those.size()));
        List<List<Integer>> tries = new ArrayList<>();
        tries.add(new ArrayList<>());
        for (int p : those) {
            List<Integer> goods = goodsOf(s, p);
            if (goods.isEmpty()) {
                goods.add(s.asks[p]);
            }
            List<List<Integer>> longer = new ArrayList<>();
            for (List<Integer> start : tries) {
                for (int g : goods) {
                    List<Integer> one = new ArrayList<>(start);
                    one.add(g);
                    longer.add(one);
                }
            }
            tries = longer;
        }
        List<Integer> best = null;
        int least = 0;
        for (List<Integer> one : tries) {
            S at = s.copy();
            for (int k = 0; k < those.size(); k++) {
                at.asks[those.get(k)] = one.get(k);
            }
            int falls = worths(at)[victim];
            if (best == null || falls < least) {
                best = one;
                least = falls;
            }
        }
        return what == 0 ? least : best.get(what - 10);
    }

    int promise(int set, int what) {
        List<Integer> those = set(set, 2, 8);
        argument(what >= 0 && what <= 2);
        S at = s.copy();
        for (int p : those) {
            int kind = kindest(p, true);
            if (kind >= 0) {
                at.asks[p] = kind;
            }
        }
        int[] before = worths(s);
        int[] then = worths(at);
        int more = 0;
        boolean holds = true;
        int breaker = -1;
        for (int p : those) {
            more += then[p] - before[p];
            holds &= then[p] >= before[p];
            if (breaker < 0 && likedBest(at, asked(at), p) >= 0) {
                breaker = p;
            }
        }
        return what == 0 ? (holds ? 1 : 0) : what == 1 ? more : breaker;
    }

    // ---- places

    int guard(int p, int what) {
        person(p);
        queued(p);
        argument(what == 0 || what == 1);
        int who = -1;
        int most = 0;
        for (int q = 0; q < told.people(); q++) {
            if (q == p || !s.queue.contains(q)) {
                continue;
            }
            S at = s.copy();
            at.queue.remove((Integer) q);
            at.queue.add(at.queue.indexOf(p), q);
            int falls = worths(at)[p];
            if (who < 0 || falls > most) {
                who = q;
                most = falls;
            }
        }
        return what == 0 ? who : most;
    }

    int price(int p, int place) {
        person(p);
        queued(p);
        place(place);
        return worths(moved(p, place))[p] - worths(s)[p];
    }

    int bestPlace(int p) {
        person(p);
        queued(p);
        int found = 0;
        for (int place = 1; place < s.queue.size(); place++) {
            if (price(p, place) > price(p, found)) {
                found = place;
            }
        }
        return found;
    }

    private int worthOfRowOf(List<Integer> those) {
        List<Integer> asked = asked(s);
        int most = Integer.MIN_VALUE;
        for (List<Integer> row : rows(those)) {
            S alone = s.copy();
            alone.queue = row;
            alone.ring = false;
            alone.yesterday = new ArrayList<>();
            List<Integer> asks = new ArrayList<>();
            for (int p : row) {
                asks.add(asked.get(s.queue.indexOf(p)));
            }
            most = Math.max(most, sum(worths(alone, asks, told.way)));
        }
        return most;
    }

    int worthOf(int set) {
        if (s.queue.size() > 6) {
            throw new IllegalStateException();
        }
        return worthOfRowOf(set(set, 0, 8));
    }

    int share(int p) {
        person(p);
        queued(p);
        if (s.queue.size() > 6) {
            throw new IllegalStateException();
        }
        Map<TreeSet<Integer>, Integer> known = new HashMap<>();
        int sum = 0;
        for (List<Integer> row : rows(s.queue)) {
            TreeSet<Integer> ahead = new TreeSet<>(row.subList(0, row.indexOf(p)));
            TreeSet<Integer> with = new TreeSet<>(ahead);
            with.add(p);
            sum += known.computeIfAbsent(with, k -> worthOfRowOf(new ArrayList<>(k)))
                    - known.computeIfAbsent(ahead, k -> worthOfRowOf(new ArrayList<>(k)));
        }
        return sum;
    }

    // ---- ruins, other ways

    int ruined(int p) {
        person(p);
        queued(p);
        S at = s.copy();
        for (int n = 1; n <= 99; n++) {
            dayOf(at);
            if (!at.queue.contains(p)) {
                return n;
            }
        }
        return -1;
    }

    int firstRuined() {
        int who = -1;
        for (int p = 0; p < told.people(); p++) {
            if (s.queue.contains(p) && ruined(p) > 0 && (who < 0 || ruined(p) < ruined(who))) {
                who = p;
            }
        }
        return who;
    }

    int by(int way) {
        argument(way >= 1 && way <= 3);
        return sum(worths(s, asked(s), way));
    }

    int bestWay() {
        return by(1) >= by(2) && by(1) >= by(3) ? 1 : by(2) >= by(3) ? 2 : 3;
    }

    // ---- secrets

    /** How many ways there are to try for what secrets() asks. */
    int tried() {
        long ways = 1;
        for (int p : s.queue) {
            ways *= Math.max(1, goodsOf(s, p).size());
        }
        return (int) Math.min(ways, Integer.MAX_VALUE);
    }

    private List<List<Integer>> waysOf(int tray) {
        long[] came = row(tray);
        argument(came.length == s.queue.size());
        for (long g : came) {
            argument(g >= -2 && g < told.goods);
        }
        List<List<Integer>> all = new ArrayList<>();
        all.add(new ArrayList<>());
        for (int p : s.queue) {
            List<Integer> goods = goodsOf(s, p);
            if (goods.isEmpty()) {
                goods.add(-1);
            }
            List<List<Integer>> longer = new ArrayList<>();
            for (List<Integer> start : all) {
                for (int g : goods) {
                    List<Integer> one = new ArrayList<>(start);
                    one.add(g);
                    longer.add(one);
                }
            }
            all = longer;
        }
        all.removeIf(row -> {
            List<Integer> falls = falls(s, row, told.way);
            for (int i = 0; i < came.length; i++) {
                if (came[i] != -1 && (came[i] == -2 ? -1 : came[i]) != falls.get(i)) {
                    return true;
                }
            }
            return false;
        });
        return all;
    }

    long secrets(int tray) {
        return waysOf(tray).size();
    }

    int sure(int tray, int place) {
        List<List<Integer>> ways = waysOf(tray);
        place(place);
        TreeSet<Integer> asked = new TreeSet<>();
        for (List<Integer> way : ways) {
            asked.add(way.get(place));
        }
        return asked.size() == 1 ? asked.first() : -1;
    }

    // ---- trays, images

    void tray(int tray, int sort, int many) {
        if (tray < 0 || tray > 3) {
            throw new NoSuchElementException();
        }
        argument(sort >= 0 && sort <= 3 && many >= 0 && many <= 30);
        trays[tray] = new long[many];
        sorts[tray] = sort;
    }

    long write(int tray, int place, long v) {
        long[] row = row(tray);
        if (place < 0 || place >= row.length) {
            throw new IndexOutOfBoundsException();
        }
        int spare = 64 - (8 << sorts[tray]);
        row[place] = v << spare >> spare;
        return row[place];
    }

    int pour(int tray) {
        long[] row = row(tray);
        List<Integer> falls = falls(s, asked(s), told.way);
        int many = Math.min(row.length, falls.size());
        for (int i = 0; i < many; i++) {
            row[i] = falls.get(i) < 0 ? -2 : falls.get(i);
        }
        return many;
    }

    private static LinkedList<S> copies(List<S> of) {
        LinkedList<S> all = new LinkedList<>();
        for (S one : of) {
            all.add(one.copy());
        }
        return all;
    }

    void image(int i) {
        if (i < 0 || i > 2) {
            throw new NoSuchElementException();
        }
        images[i] = new Object[] {told, s.copy(), copies(deeds).toArray(new S[0])};
    }

    void restore(int i) {
        if (i < 0 || i > 2) {
            throw new NoSuchElementException();
        }
        if (images[i] == null) {
            throw new IllegalStateException();
        }
        told = (ModelText) images[i][0];
        s = ((S) images[i][1]).copy();
        deeds = copies(Arrays.asList((S[]) images[i][2]));
    }

    int count(int what) {
        switch (what) {
            case 0:
                return told.lines;
            case 1:
                return told.goods;
            case 2:
                return told.people();
            case 3:
                return s.queue.size();
            case 4:
                return s.day;
            case 5:
                return told.way;
            case 6:
                return s.ring ? 1 : 0;
            case 7:
                return told.ruin;
            case 8:
                return sum(s.gold);
            case 9:
                return sum(s.total);
            case 10:
                return deeds.size();
            case 11:
                return tape.size();
            case 12:
                return told.night ? 1 : 0;
            default:
                return -1;
        }
    }
}
