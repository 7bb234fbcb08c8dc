import java.util.Arrays;
import java.util.NoSuchElementException;

/** A well, those who queue at it, what they ask and how that falls to those behind. */
public final class WellQueue {
    public static final int NONE = -1;

    private static final int PEOPLE = 8;
    private static final int GOODS = 6;
    private static final int APARTS = 8;
    private static final int TAPE = 900;
    private static final int FEED = 20;
    private static final int UNDOS = 12;
    private static final int TRAYS = 4;
    private static final int TRAY_PLACES = 30;
    private static final int TRAY_SORTS = 4;
    private static final int IMAGES = 3;
    private static final int AHEAD = 3;
    private static final int NOBODY = -2;
    private static final int WATER_IN_TRAY = -2;
    private static final int WAYS = 3;
    private static final int MOST_DAYS = 60;
    private static final int MOST_AWAITED = 99;
    private static final int MOST_TRADES = 50;
    private static final int MOST_ROUNDS = 30;
    private static final int MOST_TIMES = 30;
    private static final int MOST_SHARING = 6;
    private static final int MOST_PLOTTING = 3;
    private static final int LISTED = 10;
    private static final int MOVES = 100;

    private final byte[] tape = new byte[TAPE];
    private int taped;
    private int fault;
    private int faultPlace = NONE;
    private final Scene now = new Scene();
    private final Told told = now.told;
    private final State state = now.state;
    private final State trial = new State();
    private final Scene[] images = new Scene[IMAGES];
    private final boolean[] imaged = new boolean[IMAGES];
    private final Tray[] trays = new Tray[TRAYS];
    private final Reader reader = new Reader();
    private final Flow flow = new Flow();
    private final Orders orderings = new Orders();
    private final Plot plotting = new Plot();
    private final Shares sharing = new Shares();
    private final Secrets guesses = new Secrets();
    private int rounds;
    private boolean quiet;
    private int drawn;

    public WellQueue() {
        for (int i = 0; i < IMAGES; i++) {
            images[i] = new Scene();
        }
        for (int i = 0; i < TRAYS; i++) {
            trays[i] = new Tray();
        }
    }

    // ---- the well

    public int feed(int a, int b, int c, int d, int e) {
        if (taped + FEED > TAPE) {
            return NONE;
        }
        putOnTape(a);
        putOnTape(b);
        putOnTape(c);
        putOnTape(d);
        putOnTape(e);
        return taped;
    }

    public int well(int n) throws IllegalArgumentException {
        if (n < 0 || n > taped) {
            throw new IllegalArgumentException("not so many bytes are on the tape");
        }
        reader.read(tape, n);
        taped = 0;
        fault = reader.fault;
        faultPlace = reader.faultPlace;
        if (fault != 0) {
            return -10 - fault;
        }
        now.begin(reader.told, reader.state);
        orderings.known = false;
        return told.lines;
    }

    public int fault(int what) {
        switch (what) {
            case 0:
                return fault;
            case 1:
                return faultPlace;
            default:
                return NONE;
        }
    }

    public int person(int p, int what) throws NoSuchElementException, IllegalArgumentException {
        needPerson(p);
        int place = state.placeOf(p);
        switch (what) {
            case 0:
                return place;
            case 1:
                return state.asks[p];
            case 2:
                return told.age[p];
            case 3:
                return state.gold[p];
            case 4:
                return state.total[p];
            case 5:
                return goodFallingAt(place);
            case 6:
                return place != NONE && flow.lawful(told, state, place, state.asks[p]) ? 1 : 0;
            default:
                throw new IllegalArgumentException("nothing such is known of a person");
        }
    }

    public int worth(int p, int g) throws NoSuchElementException {
        needPerson(p);
        needGood(g);
        return told.worthTo(p, g);
    }

    public int likes(int p, int q) throws NoSuchElementException, IllegalArgumentException {
        needPerson(p);
        needPerson(q);
        if (p == q) {
            throw new IllegalArgumentException("both are one person");
        }
        return told.likesOf(p, q);
    }

    public int at(int place) throws NoSuchElementException {
        if (!isPlace(place)) {
            throw new NoSuchElementException("nobody stands there");
        }
        return state.queue[place];
    }

    public boolean allowed(int p, int g) throws NoSuchElementException, IllegalStateException {
        needPerson(p);
        needGood(g);
        return flow.lawful(told, state, needStanding(p), g);
    }

    public int today() {
        flow.run(told, state);
        return flow.worthOfAll(told, state);
    }

    public int liking(int p) throws NoSuchElementException, IllegalStateException {
        needPerson(p);
        int place = needStanding(p);
        flow.run(told, state);
        return flow.likingAt(told, state, place);
    }

    // ---- deeds

    public int ask(int p, int g) throws NoSuchElementException, IllegalStateException {
        needPerson(p);
        needGood(g);
        int place = needStanding(p);
        keepDeed();
        state.asks[p] = g;
        return flow.lawful(told, state, place, g) ? 1 : 0;
    }

    public int days(int n) throws IllegalArgumentException {
        if (n < 1 || n > MOST_DAYS) {
            throw new IllegalArgumentException("1 to 60 days");
        }
        keepDeed();
        int fell = 0;
        for (int i = 0; i < n; i++) {
            fell += flow.passDay(told, state);
        }
        return fell;
    }

    public int leave(int p) throws NoSuchElementException, IllegalStateException {
        needPerson(p);
        int place = needStanding(p);
        keepDeed();
        state.takeOut(place);
        return state.standing;
    }

    public int join(int p) throws NoSuchElementException, IllegalStateException {
        needPerson(p);
        if (state.placeOf(p) != NONE) {
            throw new IllegalStateException("it is in the queue");
        }
        keepDeed();
        return state.putLast(p);
    }

    public int move(int p, int place) throws NoSuchElementException, IllegalStateException, IllegalArgumentException {
        needPerson(p);
        int from = needStanding(p);
        needPlace(place);
        keepDeed();
        state.shift(from, place);
        flow.run(told, state);
        return flow.worthAt(told, state, place);
    }

    public int trade(int place) throws IllegalArgumentException {
        if (place < 0 || place >= state.standing - 1) {
            throw new IllegalArgumentException("nobody stands there, or behind");
        }
        return tradeAt(place);
    }

    public int trades() {
        int many = 0;
        while (many < MOST_TRADES && tradeFirst()) {
            many++;
        }
        return many;
    }

    public int auction(int place, int tray) throws NoSuchElementException, IllegalStateException, IllegalArgumentException {
        Tray bids = needTray(tray);
        needPlace(place);
        int winner = NONE;
        for (int p = 0; p < told.people; p++) {
            if (counts(bids, p) && (winner == NONE || outbids(bids, p, winner))) {
                winner = p;
            }
        }
        if (winner == NONE) {
            return NONE;
        }
        keepDeed();
        payForPlace(bids, winner, state.queue[place]);
        state.shift(state.placeOf(winner), place);
        return winner;
    }

    public int ring() {
        keepDeed();
        state.ring = !state.ring;
        return state.ring ? 1 : 0;
    }

    public int undo(int n) throws IllegalArgumentException {
        if (n < 1 || n > UNDOS || n > now.undoable) {
            throw new IllegalArgumentException("not so many deeds can be undone");
        }
        for (int i = 0; i < n; i++) {
            now.giveBack();
        }
        orderings.known = false;
        return now.undoable;
    }

    public int judge(int tray, int what) throws NoSuchElementException, IllegalStateException, IllegalArgumentException {
        Tray deeds = needTray(tray);
        if (what < 0 || what > 3) {
            throw new IllegalArgumentException("nothing such is judged");
        }
        trial.take(state);
        int fell = 0;
        int made = 0;
        while (made < deeds.many && whyNot(deeds.numberAt(made), trial) == 0) {
            fell += make((int) deeds.numberAt(made), trial);
            made++;
        }
        boolean stuck = made < deeds.many;
        switch (what) {
            case 0:
                return stuck ? made : NONE;
            case 1:
                return stuck ? whyNot(deeds.numberAt(made), trial) : 0;
            case 2:
                return fell;
            default:
                return trial.standing;
        }
    }

    public int perform(int tray) throws NoSuchElementException, IllegalStateException {
        Tray deeds = needTray(tray);
        int made = 0;
        while (made < deeds.many && whyNot(deeds.numberAt(made), state) == 0) {
            keepDeed();
            make((int) deeds.numberAt(made), state);
            made++;
        }
        return made;
    }

    public int season(int seed, int times) throws IllegalArgumentException, IllegalStateException {
        if (times < 1 || times > MOST_TIMES) {
            throw new IllegalArgumentException("1 to 30 times");
        }
        if (told.people == 0) {
            throw new IllegalStateException("there are no people");
        }
        drawn = seed;
        int made = 0;
        for (int i = 0; i < times; i++) {
            int deed = drawDeed();
            if (whyNot(deed, state) == 0) {
                keepDeed();
                make(deed, state);
                made++;
            }
        }
        return made;
    }

    // ---- orders

    public int best(int what) throws IllegalArgumentException {
        if (what != 0 && (what < LISTED || what >= LISTED + PEOPLE)) {
            throw new IllegalArgumentException("nothing such is known of the best order");
        }
        findBest();
        if (!orderings.any) {
            return NONE;
        }
        if (what == 0) {
            return orderings.most;
        }
        int place = what - LISTED;
        return isPlace(place) ? orderings.bestRow[place] : NONE;
    }

    public int orders(int least) {
        orderings.search(told, state, flow, least);
        return orderings.many;
    }

    public int standBest() throws IllegalStateException {
        findBest();
        if (!orderings.any || state.standing == 0) {
            throw new IllegalStateException("there is no order to stand in");
        }
        keepDeed();
        for (int place = 0; place < state.standing; place++) {
            state.queue[place] = orderings.bestRow[place];
        }
        flow.run(told, state);
        return flow.worthOfAll(told, state);
    }

    // ---- what is asked

    public int kindest(int p, boolean kind) throws NoSuchElementException, IllegalStateException {
        needPerson(p);
        int place = needStanding(p);
        layChoices();
        return kindAt(place, kind);
    }

    public int settles(int what) throws IllegalArgumentException {
        boolean ofPerson = what >= LISTED && what - LISTED < told.people;
        if (!ofPerson && (what < 0 || what > 2)) {
            throw new IllegalArgumentException("nothing such is known of settling");
        }
        settle();
        switch (what) {
            case 0:
                return rounds;
            case 1:
                return quiet ? 1 : 0;
            case 2:
                return flow.worthOfAll(told, trial);
            default:
                return trial.asks[what - LISTED];
        }
    }

    public int plot(int set, int victim, int what)
            throws NoSuchElementException, IllegalStateException, IllegalArgumentException {
        needPerson(victim);
        int place = needStanding(victim);
        int many = Integer.bitCount(set);
        needSet(set, 1, MOST_PLOTTING);
        boolean ofPlotter = what >= LISTED && what - LISTED < many;
        if ((set & 1 << victim) != 0 || (what != 0 && !ofPlotter)) {
            throw new IllegalArgumentException("no such plot");
        }
        layChoices();
        plotting.search(told, state, flow, set, place);
        return ofPlotter ? plotting.worst[what - LISTED] : plotting.least;
    }

    public int promise(int set, int what) throws IllegalArgumentException {
        needSet(set, 2, PEOPLE);
        if (what < 0 || what > 2) {
            throw new IllegalArgumentException("nothing such is known of a promise");
        }
        layChoices();
        makePromise(set);
        switch (what) {
            case 0:
                return promiseHolds(set) ? 1 : 0;
            case 1:
                return promiseGain(set);
            default:
                return promiseBreaker(set);
        }
    }

    // ---- places

    public int guard(int p, int what) throws NoSuchElementException, IllegalStateException, IllegalArgumentException {
        needPerson(p);
        needStanding(p);
        if (what < 0 || what > 1) {
            throw new IllegalArgumentException("nothing such is known of a guard");
        }
        int who = NONE;
        int most = 0;
        for (int q = 0; q < told.people; q++) {
            if (q != p && state.placeOf(q) != NONE) {
                int falls = worthGuardedBy(p, q);
                if (who == NONE || falls > most) {
                    who = q;
                    most = falls;
                }
            }
        }
        return what == 0 ? who : most;
    }

    public int price(int p, int place) throws NoSuchElementException, IllegalStateException, IllegalArgumentException {
        needPerson(p);
        int from = needStanding(p);
        needPlace(place);
        return worthMoved(from, place) - worthMoved(from, from);
    }

    public int bestPlace(int p) throws NoSuchElementException, IllegalStateException {
        needPerson(p);
        int from = needStanding(p);
        int found = 0;
        int most = worthMoved(from, 0);
        for (int place = 1; place < state.standing; place++) {
            int falls = worthMoved(from, place);
            if (falls > most) {
                found = place;
                most = falls;
            }
        }
        return found;
    }

    public int worthOf(int set) throws IllegalStateException, IllegalArgumentException {
        if (state.standing > MOST_SHARING) {
            throw new IllegalStateException("more than 6 are in the queue");
        }
        needSet(set, 0, PEOPLE);
        sharing.weigh(told, state, flow, set);
        return sharing.worthOfSet(set);
    }

    public int share(int p) throws NoSuchElementException, IllegalStateException {
        needPerson(p);
        needStanding(p);
        if (state.standing > MOST_SHARING) {
            throw new IllegalStateException("more than 6 are in the queue");
        }
        int all = state.members();
        sharing.weigh(told, state, flow, all);
        return sharing.shareOf(p, all);
    }

    // ---- ruins, other ways

    public int ruined(int p) throws NoSuchElementException, IllegalStateException {
        needPerson(p);
        needStanding(p);
        return awaitRuin(1 << p) ? trial.day - state.day : NONE;
    }

    public int firstRuined() {
        int members = state.members();
        if (!awaitRuin(members)) {
            return NONE;
        }
        int gone = members & ~trial.members();
        for (int p = 0; p < told.people; p++) {
            if ((gone & 1 << p) != 0) {
                return p;
            }
        }
        return NONE;
    }

    public int by(int way) throws IllegalArgumentException {
        if (way < 1 || way > WAYS) {
            throw new IllegalArgumentException("no such way");
        }
        return worthByWay(way);
    }

    public int bestWay() {
        int found = 1;
        int most = worthByWay(1);
        for (int way = 2; way <= WAYS; way++) {
            int falls = worthByWay(way);
            if (falls > most) {
                found = way;
                most = falls;
            }
        }
        return found;
    }

    // ---- secrets

    public long secrets(int tray) throws NoSuchElementException, IllegalStateException, IllegalArgumentException {
        Tray came = needTray(tray);
        needTold(came);
        guesses.begin(told, state, flow, came);
        return guesses.ways();
    }

    public int sure(int tray, int place) throws NoSuchElementException, IllegalStateException, IllegalArgumentException {
        Tray came = needTray(tray);
        needTold(came);
        needPlace(place);
        guesses.begin(told, state, flow, came);
        return guesses.onlyAsked(place);
    }

    // ---- trays, images

    public void tray(int tray, int sort, int many) throws NoSuchElementException, IllegalArgumentException {
        if (!isTray(tray)) {
            throw new NoSuchElementException("no such tray");
        }
        if (sort < 0 || sort >= TRAY_SORTS || many < 0 || many > TRAY_PLACES) {
            throw new IllegalArgumentException("no such sort, or not so many");
        }
        trays[tray].lay(sort, many);
    }

    public long write(int tray, int place, long v)
            throws NoSuchElementException, IllegalStateException, IndexOutOfBoundsException {
        Tray row = needTray(tray);
        if (place < 0 || place >= row.many) {
            throw new IndexOutOfBoundsException("it has no such place");
        }
        return row.put(place, v);
    }

    public int pour(int tray) throws NoSuchElementException, IllegalStateException {
        Tray row = needTray(tray);
        flow.run(told, state);
        int many = Math.min(row.many, state.standing);
        for (int place = 0; place < many; place++) {
            int good = flow.fell[place];
            row.put(place, good == NONE ? WATER_IN_TRAY : good);
        }
        return many;
    }

    public void image(int i) throws NoSuchElementException {
        needImage(i);
        images[i].take(now);
        imaged[i] = true;
    }

    public void restore(int i) throws NoSuchElementException, IllegalStateException {
        needImage(i);
        if (!imaged[i]) {
            throw new IllegalStateException("no such image was made");
        }
        now.take(images[i]);
        orderings.known = false;
    }

    public int count(int what) {
        switch (what) {
            case 0:
                return told.lines;
            case 1:
                return told.goods;
            case 2:
                return told.people;
            case 3:
                return state.standing;
            case 4:
                return state.day;
            case 5:
                return told.way;
            case 6:
                return state.ring ? 1 : 0;
            case 7:
                return told.ruin;
            case 8:
                return sumOver(state.gold);
            case 9:
                return sumOver(state.total);
            case 10:
                return now.undoable;
            case 11:
                return taped;
            case 12:
                return told.night ? 1 : 0;
            default:
                return NONE;
        }
    }

    // ---- what calls need

    private void needPerson(int p) {
        if (p < 0 || p >= told.people) {
            throw new NoSuchElementException("no such person");
        }
    }

    private void needGood(int g) {
        if (g < 0 || g >= told.goods) {
            throw new NoSuchElementException("no such good");
        }
    }

    private int needStanding(int p) {
        int place = state.placeOf(p);
        if (place == NONE) {
            throw new IllegalStateException("it isn't in the queue");
        }
        return place;
    }

    private boolean isPlace(int place) {
        return place >= 0 && place < state.standing;
    }

    private void needPlace(int place) {
        if (!isPlace(place)) {
            throw new IllegalArgumentException("there is no such place");
        }
    }

    private void needSet(int set, int fewest, int most) {
        int many = Integer.bitCount(set);
        if ((set & ~state.members()) != 0 || many < fewest || many > most) {
            throw new IllegalArgumentException("no such set");
        }
    }

    private static boolean isTray(int tray) {
        return tray >= 0 && tray < TRAYS;
    }

    private Tray needTray(int tray) {
        if (!isTray(tray)) {
            throw new NoSuchElementException("no such tray");
        }
        if (trays[tray].missing) {
            throw new IllegalStateException("the tray is missing");
        }
        return trays[tray];
    }

    private void needTold(Tray came) {
        boolean fits = came.many == state.standing;
        for (int place = 0; place < came.many; place++) {
            long good = came.numberAt(place);
            if (good < WATER_IN_TRAY || good >= told.goods) {
                fits = false;
            }
        }
        if (!fits) {
            throw new IllegalArgumentException("that can't have come");
        }
    }

    private static void needImage(int i) {
        if (i < 0 || i >= IMAGES) {
            throw new NoSuchElementException("no such image");
        }
    }

    // ---- how calls are answered

    private void putOnTape(int four) {
        for (int shift = 24; shift >= 0 && taped < TAPE; shift -= 8) {
            tape[taped] = (byte) (four >>> shift);
            taped++;
        }
    }

    private int goodFallingAt(int place) {
        if (!isPlace(place)) {
            return NONE;
        }
        flow.run(told, state);
        return flow.fell[place];
    }

    private int sumOver(int[] row) {
        int sum = 0;
        for (int p = 0; p < told.people; p++) {
            sum += row[p];
        }
        return sum;
    }

    private int worthByWay(int way) {
        flow.layAsked(told, state);
        flow.fallBy(told, state, way);
        return flow.worthOfAll(told, state);
    }

    /** Every DEED passes here just before it is done, so that it can be UNDONE. */
    private void keepDeed() {
        now.keep();
        orderings.known = false;
    }

    private boolean tradeFirst() {
        for (int place = 0; place < state.standing - 1; place++) {
            if (tradeAt(place) > 0) {
                return true;
            }
        }
        return false;
    }

    private int tradeAt(int place) {
        int first = state.queue[place];
        int second = state.queue[place + 1];
        flow.run(told, state);
        int firstHad = flow.worthAt(told, state, place);
        int secondHad = flow.worthAt(told, state, place + 1);
        trial.take(state);
        trial.shift(place, place + 1);
        flow.run(told, trial);
        int firstGains = flow.worthAt(told, trial, place + 1) - firstHad;
        int secondGains = flow.worthAt(told, trial, place) - secondHad;
        boolean firstPays = firstGains >= secondGains;
        int payer = firstPays ? first : second;
        int paid = firstPays ? second : first;
        int sum = Math.abs(firstGains - secondGains) / 2;
        if (firstGains + secondGains <= 0 || state.gold[payer] < sum) {
            return 0;
        }
        keepDeed();
        state.shift(place, place + 1);
        state.pay(payer, paid, sum);
        return firstGains + secondGains;
    }

    private boolean counts(Tray bids, int p) {
        if (p >= bids.many || state.placeOf(p) == NONE) {
            return false;
        }
        long bid = bids.numberAt(p);
        return bid >= 1 && bid <= state.gold[p];
    }

    private boolean outbids(Tray bids, int p, int other) {
        long mine = bids.numberAt(p);
        long theirs = bids.numberAt(other);
        return mine > theirs || (mine == theirs && told.age[p] > told.age[other]);
    }

    private void payForPlace(Tray bids, int winner, int holder) {
        if (winner == holder) {
            return;
        }
        long second = 0;
        for (int p = 0; p < told.people; p++) {
            if (p != winner && counts(bids, p)) {
                second = Math.max(second, bids.numberAt(p));
            }
        }
        state.pay(winner, holder, (int) second);
    }

    /** Why a TOLD DEED can't be; 0: it can. */
    private int whyNot(long deed, State where) {
        if (deed == NONE) {
            return 0;
        }
        if (deed < 0 || deed >= 2 * MOVES) {
            return 1;
        }
        int p = (int) (deed % MOVES) / 10;
        int aim = (int) (deed % 10);
        int aims = deed < MOVES ? told.goods : where.standing;
        if (p >= told.people || aim >= aims) {
            return 1;
        }
        return where.placeOf(p) == NONE ? 2 : 0;
    }

    /** Does a TOLD DEED that can be: what FELL by it. */
    private int make(int deed, State where) {
        if (deed == NONE) {
            return flow.passDay(told, where);
        }
        int p = deed % MOVES / 10;
        if (deed < MOVES) {
            where.asks[p] = deed % 10;
        } else {
            where.shift(where.placeOf(p), deed % 10);
        }
        return 0;
    }

    private int draw() {
        drawn = 1103515245 * drawn + 12345;
        return drawn >>> 16;
    }

    /** What a SEASON draws, as a TOLD DEED: their rules of what can be are the same. */
    private int drawDeed() {
        int kind = draw() % 3;
        if (kind == 0 || told.people <= 0 || told.goods <= 0) {
            return NONE;
        }
        int p = draw() % told.people;
        if (kind == 1) {
            return 10 * p + draw() % told.goods;
        }
        return MOVES + 10 * p + draw() % told.people;
    }

    private void findBest() {
        if (!orderings.known) {
            orderings.search(told, state, flow, 0);
        }
    }

    private void layChoices() {
        flow.layAsked(told, state);
        flow.layLawful(told, state);
    }

    /** KIND or CRUEL of who stands at a place; what is asked stays as laid. */
    private int kindAt(int place, boolean kind) {
        int asked = flow.line[AHEAD + place];
        int found = NONE;
        int most = 0;
        for (int g = 0; g < told.goods; g++) {
            if (flow.mayAsk(place, g)) {
                flow.line[AHEAD + place] = g;
                flow.fallBy(told, state, told.way);
                int others = flow.worthOfAll(told, state) - flow.worthAt(told, state, place);
                int good = kind ? others : -others;
                if (found == NONE || good > most) {
                    found = g;
                    most = good;
                }
            }
        }
        flow.line[AHEAD + place] = asked;
        return found;
    }

    private void settle() {
        trial.take(state);
        layChoices();
        rounds = 0;
        quiet = false;
        while (!quiet && rounds < MOST_ROUNDS) {
            quiet = !settleRound();
            rounds++;
        }
        flow.fallBy(told, trial, told.way);
    }

    private boolean settleRound() {
        boolean changed = false;
        for (int place = 0; place < trial.standing; place++) {
            int good = likedMore(place);
            if (good != NONE) {
                trial.asks[trial.queue[place]] = good;
                flow.line[AHEAD + place] = good;
                changed = true;
            }
        }
        return changed;
    }

    /** The ALLOWED GOOD by which one's LIKING is greatest, if greater than as laid; else NONE. */
    private int likedMore(int place) {
        int asked = flow.line[AHEAD + place];
        int most = likingBy(place, asked);
        int found = NONE;
        for (int g = 0; g < told.goods; g++) {
            if (flow.mayAsk(place, g)) {
                int liked = likingBy(place, g);
                if (liked > most) {
                    found = g;
                    most = liked;
                }
            }
        }
        flow.line[AHEAD + place] = asked;
        return found;
    }

    private int likingBy(int place, int good) {
        flow.line[AHEAD + place] = good;
        flow.fallBy(told, state, told.way);
        return flow.likingAt(told, state, place);
    }

    /** Lays what is ASKED by a PROMISE, and what FALLS then; trial.total keeps what FALLS now. */
    private void makePromise(int set) {
        for (int place = 0; place < state.standing; place++) {
            int p = state.queue[place];
            int kind = (set & 1 << p) != 0 ? kindAt(place, true) : NONE;
            trial.asks[p] = kind == NONE ? flow.line[AHEAD + place] : kind;
        }
        flow.fallBy(told, state, told.way);
        for (int place = 0; place < state.standing; place++) {
            trial.total[state.queue[place]] = flow.worthAt(told, state, place);
        }
        for (int place = 0; place < state.standing; place++) {
            flow.line[AHEAD + place] = trial.asks[state.queue[place]];
        }
        flow.fallBy(told, state, told.way);
    }

    private boolean promiseHolds(int set) {
        for (int place = 0; place < state.standing; place++) {
            int p = state.queue[place];
            if ((set & 1 << p) != 0 && flow.worthAt(told, state, place) < trial.total[p]) {
                return false;
            }
        }
        return true;
    }

    private int promiseGain(int set) {
        int gain = 0;
        for (int place = 0; place < state.standing; place++) {
            int p = state.queue[place];
            if ((set & 1 << p) != 0) {
                gain += flow.worthAt(told, state, place) - trial.total[p];
            }
        }
        return gain;
    }

    private int promiseBreaker(int set) {
        for (int p = 0; p < told.people; p++) {
            int place = (set & 1 << p) != 0 ? state.placeOf(p) : NONE;
            if (place != NONE && likedMore(place) != NONE) {
                return p;
            }
        }
        return NONE;
    }

    private int worthGuardedBy(int p, int q) {
        int place = state.placeOf(p);
        int from = state.placeOf(q);
        trial.take(state);
        trial.shift(from, from < place ? place - 1 : place);
        flow.run(told, trial);
        return flow.worthAt(told, trial, trial.placeOf(p));
    }

    private int worthMoved(int from, int to) {
        trial.take(state);
        trial.shift(from, to);
        flow.run(told, trial);
        return flow.worthAt(told, trial, to);
    }

    /** Lets DAYS pass in trial till one of a set is gone; false: none is in 99 DAYS. */
    private boolean awaitRuin(int set) {
        trial.take(state);
        for (int i = 0; told.ruin > 0 && i < MOST_AWAITED; i++) {
            flow.passDay(told, trial);
            if ((set & ~trial.members()) != 0) {
                return true;
            }
        }
        return false;
    }

    /** The law as code: numbers, names and what joins the two before it. */
    private static final class Law {
        static final int NAMES = 1000;
        static final int GOOD = 0;
        static final int WORTH = 1;
        static final int AGE = 2;
        static final int GOLD = 3;
        static final int PLACE = 4;
        static final int OTHERS = 5;
        static final int TOTAL = 6;
        static final int DAY = 7;
        static final int NAMED = 8;
        static final int JOINS = 2000;
        static final int NOT = JOINS;
        static final int AND = JOINS + 1;
        static final int OR = JOINS + 2;
        static final int PLUS = JOINS + '+';
        static final int LESS = JOINS + '-';
        static final int TIMES = JOINS + '*';
        static final int SAME = JOINS + '=';
        static final int BELOW = JOINS + '<';
        static final int ABOVE = JOINS + '>';
        private static final int BOUND = 1000000;
        private static final int STACK = 64;

        int size;
        private final int[] code = new int[TAPE];
        private final int[] stack = new int[STACK];

        void clear() {
            size = 0;
        }

        void add(int c) {
            if (size < TAPE) {
                code[size] = c;
                size++;
            }
        }

        void take(Law other) {
            size = other.size;
            System.arraycopy(other.code, 0, code, 0, other.size);
        }

        /** Without a law nothing runs and the 1 stays. */
        boolean holds(int[] named) {
            stack[0] = 1;
            int top = 0;
            for (int i = 0; i < size; i++) {
                int c = code[i];
                if (c < NAMES + NAMED) {
                    if (top < STACK) {
                        stack[top] = c < NAMES ? c : named[c - NAMES];
                        top++;
                    }
                } else if (c == NOT) {
                    stack[top > 0 ? top - 1 : 0] ^= 1;
                } else if (top > 1) {
                    top--;
                    stack[top - 1] = joined(c, stack[top - 1], stack[top]);
                }
            }
            return stack[0] != 0;
        }

        private static int joined(int join, int left, int right) {
            long number = 0;
            switch (join) {
                case PLUS:
                    number = (long) left + right;
                    break;
                case LESS:
                    number = (long) left - right;
                    break;
                case TIMES:
                    number = (long) left * right;
                    break;
                case SAME:
                    return left == right ? 1 : 0;
                case BELOW:
                    return left < right ? 1 : 0;
                case ABOVE:
                    return left > right ? 1 : 0;
                case AND:
                    return left & right;
                default:
                    return left | right;
            }
            return number > BOUND ? BOUND : number < -BOUND ? -BOUND : (int) number;
        }
    }

    /** What THE WELL tells and no DEED changes. */
    private static final class Told {
        int lines;
        int goods;
        int people;
        int aparts;
        int way = 1;
        int ruin;
        boolean night;
        final int[] age = new int[PEOPLE];
        final int[] apart = new int[PEOPLE];
        final Law law = new Law();
        private final int[] worths = new int[PEOPLE * GOODS];
        private final int[] likings = new int[PEOPLE * PEOPLE];

        void clear() {
            lines = 0;
            goods = 0;
            people = 0;
            aparts = 0;
            way = 1;
            ruin = 0;
            night = false;
            Arrays.fill(apart, 0);
            Arrays.fill(likings, 0);
            law.clear();
        }

        void take(Told other) {
            lines = other.lines;
            goods = other.goods;
            people = other.people;
            aparts = other.aparts;
            way = other.way;
            ruin = other.ruin;
            night = other.night;
            System.arraycopy(other.age, 0, age, 0, PEOPLE);
            System.arraycopy(other.apart, 0, apart, 0, PEOPLE);
            System.arraycopy(other.worths, 0, worths, 0, PEOPLE * GOODS);
            System.arraycopy(other.likings, 0, likings, 0, PEOPLE * PEOPLE);
            law.take(other.law);
        }

        int worthTo(int p, int good) {
            return good < 0 ? 0 : worths[p * GOODS + good];
        }

        void setWorth(int p, int good, int worth) {
            worths[p * GOODS + good] = worth;
        }

        int likesOf(int p, int q) {
            return likings[p * PEOPLE + q];
        }

        void setLikes(int p, int q, int much) {
            likings[p * PEOPLE + q] = much;
        }
    }

    /** What DEEDS change. */
    private static final class State {
        int standing;
        int day;
        boolean ring;
        int slept;
        final int[] queue = new int[PEOPLE];
        final int[] asks = new int[PEOPLE];
        final int[] gold = new int[PEOPLE];
        final int[] total = new int[PEOPLE];
        final int[] sleptAsking = new int[PEOPLE];

        void clear() {
            standing = 0;
            day = 0;
            ring = false;
            slept = 0;
            Arrays.fill(total, 0);
        }

        void take(State other) {
            standing = other.standing;
            day = other.day;
            ring = other.ring;
            slept = other.slept;
            System.arraycopy(other.queue, 0, queue, 0, PEOPLE);
            System.arraycopy(other.asks, 0, asks, 0, PEOPLE);
            System.arraycopy(other.gold, 0, gold, 0, PEOPLE);
            System.arraycopy(other.total, 0, total, 0, PEOPLE);
            System.arraycopy(other.sleptAsking, 0, sleptAsking, 0, PEOPLE);
        }

        int placeOf(int p) {
            for (int place = 0; place < standing; place++) {
                if (queue[place] == p) {
                    return place;
                }
            }
            return NONE;
        }

        int members() {
            int set = 0;
            for (int place = 0; place < standing; place++) {
                set |= 1 << queue[place];
            }
            return set;
        }

        int putLast(int p) {
            if (standing < PEOPLE) {
                queue[standing] = p;
                standing++;
            }
            return standing - 1;
        }

        void takeOut(int place) {
            shift(place, standing - 1);
            standing--;
        }

        void shift(int from, int to) {
            if (from < 0 || from >= standing || to < 0 || to >= standing) {
                return;
            }
            int p = queue[from];
            for (int place = from; place < to; place++) {
                queue[place] = queue[place + 1];
            }
            for (int place = from; place > to; place--) {
                queue[place] = queue[place - 1];
            }
            queue[to] = p;
        }

        void pay(int payer, int paid, int sum) {
            gold[payer] -= sum;
            gold[paid] += sum;
        }
    }

    /** All that an IMAGE keeps; how things were ahead of the latest DEEDS, too. */
    private static final class Scene {
        final Told told = new Told();
        final State state = new State();
        int undoable;
        private int eldest;
        private final State[] kept = new State[UNDOS];

        Scene() {
            for (int i = 0; i < UNDOS; i++) {
                kept[i] = new State();
            }
        }

        void begin(Told well, State start) {
            told.take(well);
            state.take(start);
            undoable = 0;
        }

        void keep() {
            kept[(eldest + undoable) % UNDOS].take(state);
            if (undoable < UNDOS) {
                undoable++;
            } else {
                eldest = (eldest + 1) % UNDOS;
            }
        }

        void giveBack() {
            if (undoable > 0) {
                undoable--;
                state.take(kept[(eldest + undoable) % UNDOS]);
            }
        }

        void take(Scene other) {
            told.take(other.told);
            state.take(other.state);
            undoable = other.undoable;
            eldest = other.eldest;
            for (int i = 0; i < UNDOS; i++) {
                kept[i].take(other.kept[i]);
            }
        }
    }

    private static final class Tray {
        boolean missing = true;
        int many;
        private int sort;
        private final long[] numbers = new long[TRAY_PLACES];

        void lay(int newSort, int newMany) {
            missing = false;
            sort = newSort;
            many = newMany;
            Arrays.fill(numbers, 0L);
        }

        long numberAt(int place) {
            return place >= 0 && place < many ? numbers[place] : 0L;
        }

        long put(int place, long number) {
            if (place < 0 || place >= many) {
                return 0L;
            }
            numbers[place] = cut(number);
            return numbers[place];
        }

        private long cut(long number) {
            switch (sort) {
                case 0:
                    return (byte) number;
                case 1:
                    return (short) number;
                case 2:
                    return (int) number;
                default:
                    return number;
            }
        }
    }

    /** What is ASKED in a row and what FALLS by it. */
    private static final class Flow {
        /** Three who stand ahead of the first one, then the row itself: what they ASK, WATER or NOBODY. */
        final int[] line = new int[AHEAD + PEOPLE];
        final int[] fell = new int[PEOPLE];
        private final int[] choices = new int[PEOPLE];
        private final int[] named = new int[Law.NAMED];

        static int fallOf(int way, int three, int two, int one) {
            if (way == 1) {
                return one == NOBODY ? NONE : one;
            }
            if (way == 2) {
                return two == NOBODY ? NONE : two;
            }
            if (three == NOBODY || two == NOBODY || one == NOBODY) {
                return NONE;
            }
            return Math.max(Math.min(three, two), Math.min(Math.max(three, two), one));
        }

        boolean lawful(Told told, State state, int place, int good) {
            return lawfulFor(told, state, state.queue[place], place, good);
        }

        boolean lawfulFor(Told told, State state, int p, int place, int good) {
            named[Law.GOOD] = good;
            named[Law.WORTH] = told.worthTo(p, good);
            named[Law.AGE] = told.age[p];
            named[Law.GOLD] = state.gold[p];
            named[Law.PLACE] = place;
            named[Law.OTHERS] = state.standing - 1 - place;
            named[Law.TOTAL] = state.total[p];
            named[Law.DAY] = state.day % 10;
            return told.law.holds(named);
        }

        void layAsked(Told told, State state) {
            for (int place = 0; place < state.standing; place++) {
                int good = state.asks[state.queue[place]];
                line[AHEAD + place] = lawfulFor(told, state, state.queue[place], place, good) ? good : NONE;
            }
        }

        void layLawful(Told told, State state) {
            for (int place = 0; place < state.standing; place++) {
                choices[place] = 0;
                for (int g = 0; g < told.goods; g++) {
                    if (lawfulFor(told, state, state.queue[place], place, g)) {
                        choices[place] |= 1 << g;
                    }
                }
            }
        }

        boolean mayAsk(int place, int good) {
            return (choices[place] & 1 << good) != 0;
        }

        boolean mayAskAny(int place) {
            return choices[place] != 0;
        }

        /** Who stands so many ahead of the first one, round a ring of so many. */
        static int placeRound(int back, int standing) {
            return standing > 0 ? (AHEAD * standing - back) % standing : 0;
        }

        void layAhead(Told told, State state) {
            for (int back = 1; back <= AHEAD; back++) {
                int asked = NOBODY;
                if (state.ring && state.standing > 0) {
                    asked = line[AHEAD + placeRound(back, state.standing)];
                } else if (!state.ring && told.night && back <= state.slept) {
                    asked = state.sleptAsking[state.slept - back];
                }
                line[AHEAD - back] = asked;
            }
        }

        /** What FALLS by what is laid. */
        void fallBy(Told told, State state, int way) {
            layAhead(told, state);
            for (int place = 0; place < state.standing; place++) {
                fell[place] = fallOf(way, line[place], line[place + 1], line[place + 2]);
            }
        }

        int fallAt(int way, int place) {
            return fallOf(way, line[place], line[place + 1], line[place + 2]);
        }

        void run(Told told, State state) {
            layAsked(told, state);
            fallBy(told, state, told.way);
        }

        int worthAt(Told told, State state, int place) {
            return place < 0 ? 0 : told.worthTo(state.queue[place], fell[place]);
        }

        int worthOfAll(Told told, State state) {
            int sum = 0;
            for (int place = 0; place < state.standing; place++) {
                sum += worthAt(told, state, place);
            }
            return sum;
        }

        int likingAt(Told told, State state, int place) {
            int p = state.queue[place];
            int sum = worthAt(told, state, place);
            for (int other = 0; other < state.standing; other++) {
                if (other != place) {
                    sum += worthAt(told, state, other) * told.likesOf(p, state.queue[other]);
                }
            }
            return sum;
        }

        /** A DAY: what FELL, worth to all together. */
        int passDay(Told told, State state) {
            layAsked(told, state);
            fallBy(told, state, told.way);
            int sum = worthOfAll(told, state);
            for (int place = 0; place < state.standing; place++) {
                state.total[state.queue[place]] += worthAt(told, state, place);
                state.sleptAsking[place] = line[AHEAD + place];
            }
            state.slept = state.standing;
            state.day++;
            for (int place = state.standing - 1; place >= 0; place--) {
                if (told.ruin > 0 && state.total[state.queue[place]] <= -told.ruin) {
                    state.takeOut(place);
                }
            }
            return sum;
        }
    }

    /** All ORDERS, one after the other by numbers of PEOPLE. */
    private static final class Orders {
        /** Whether what is BEST is still that of things as they are. */
        boolean known;
        boolean any;
        int most;
        int many;
        final int[] bestRow = new int[PEOPLE];
        private int least;
        private final int[] row = new int[PEOPLE];
        private final int[] asked = new int[PEOPLE * PEOPLE];
        private Told told;
        private State state;
        private Flow flow;

        void search(Told newTold, State newState, Flow newFlow, int newLeast) {
            told = newTold;
            state = newState;
            flow = newFlow;
            least = newLeast;
            any = false;
            many = 0;
            most = 0;
            layAskedByPlaces();
            flow.layAhead(told, state);
            stand(0, state.members(), 0);
            known = true;
        }

        /** The law may look at places, so what one ASKS is laid for each place. */
        private void layAskedByPlaces() {
            for (int i = 0; i < state.standing; i++) {
                int p = state.queue[i];
                int good = state.asks[p];
                for (int place = 0; place < state.standing; place++) {
                    boolean lawful = flow.lawfulFor(told, state, p, place, good);
                    asked[p * PEOPLE + place] = lawful ? good : NONE;
                }
            }
        }

        private void stand(int place, int rest, int sum) {
            if (place >= state.standing) {
                close(sum);
                return;
            }
            int open = place > 0 ? rest & ~told.apart[row[place - 1]] : rest;
            int comes = fallsLater(place) ? NONE : flow.fallAt(told.way, place);
            for (int p = 0; p < told.people; p++) {
                if ((open & 1 << p) != 0) {
                    row[place] = p;
                    flow.line[AHEAD + place] = asked[p * PEOPLE + place];
                    stand(place + 1, rest & ~(1 << p), sum + told.worthTo(p, comes));
                }
            }
        }

        /** Round a ring the last ones must stand before it is known what FALLS to the first ones. */
        private boolean fallsLater(int place) {
            return state.ring && place < told.way;
        }

        private void close(int sum) {
            int all = sum;
            if (state.ring) {
                flow.layAhead(told, state);
                for (int place = 0; place < state.standing && fallsLater(place); place++) {
                    all += told.worthTo(row[place], flow.fallAt(told.way, place));
                }
            }
            if (all >= least) {
                many++;
            }
            if (!any || all > most) {
                any = true;
                most = all;
                System.arraycopy(row, 0, bestRow, 0, PEOPLE);
            }
        }
    }

    /** What a few might ASK so that least FALLS to one. */
    private static final class Plot {
        int least;
        final int[] worst = new int[MOST_PLOTTING];
        private boolean any;
        private int many;
        private int victimPlace;
        private final int[] places = new int[MOST_PLOTTING];
        private final int[] goods = new int[MOST_PLOTTING];
        private Told told;
        private State state;
        private Flow flow;

        void search(Told newTold, State newState, Flow newFlow, int set, int newVictimPlace) {
            told = newTold;
            state = newState;
            flow = newFlow;
            victimPlace = newVictimPlace;
            any = false;
            many = 0;
            for (int p = 0; p < told.people && many < MOST_PLOTTING; p++) {
                if ((set & 1 << p) != 0) {
                    places[many] = state.placeOf(p);
                    goods[many] = state.asks[p];
                    many++;
                }
            }
            choose(0);
        }

        private void choose(int k) {
            if (k >= many) {
                weigh();
                return;
            }
            int place = places[k];
            if (place < 0) {
                return;
            }
            if (!flow.mayAskAny(place)) {
                choose(k + 1);
                return;
            }
            for (int g = 0; g < told.goods; g++) {
                if (flow.mayAsk(place, g)) {
                    goods[k] = g;
                    flow.line[AHEAD + place] = g;
                    choose(k + 1);
                }
            }
        }

        private void weigh() {
            flow.fallBy(told, state, told.way);
            int falls = flow.worthAt(told, state, victimPlace);
            if (!any || falls < least) {
                any = true;
                least = falls;
                System.arraycopy(goods, 0, worst, 0, MOST_PLOTTING);
            }
        }
    }

    /** The worth of sets and what each one adds to them. */
    private static final class Shares {
        private static final int[] ROWS = {1, 1, 2, 6, 24, 120};

        private final int[] worths = new int[1 << PEOPLE];
        private final int[] asked = new int[PEOPLE];
        private final int[] line = new int[AHEAD + PEOPLE];
        private int all;
        private Told told;

        void weigh(Told newTold, State state, Flow flow, int set) {
            told = newTold;
            all = set;
            flow.layAsked(told, state);
            for (int place = 0; place < state.standing; place++) {
                asked[state.queue[place]] = flow.line[AHEAD + place];
            }
            Arrays.fill(worths, Integer.MIN_VALUE);
            Arrays.fill(line, NOBODY);
            comeBehind(0, 0, 0);
        }

        int worthOfSet(int set) {
            return worths[set & (1 << PEOPLE) - 1];
        }

        /** What FALLS in a row hangs on those ahead alone, so each row goes on from a shorter one. */
        private void comeBehind(int place, int set, int sum) {
            worths[set] = Math.max(worths[set], sum);
            if (place >= MOST_SHARING) {
                return;
            }
            int comes = Flow.fallOf(told.way, line[place], line[place + 1], line[place + 2]);
            for (int p = 0; p < told.people; p++) {
                int one = 1 << p;
                if ((all & ~set & one) != 0) {
                    line[AHEAD + place] = asked[p];
                    comeBehind(place + 1, set | one, sum + told.worthTo(p, comes));
                }
            }
        }

        int shareOf(int p, int members) {
            int one = 1 << p;
            int others = members & ~one;
            int many = Integer.bitCount(others);
            int sum = 0;
            for (int set = 0; set < 1 << PEOPLE; set++) {
                int ahead = Integer.bitCount(set);
                if ((set & ~others) == 0 && ahead < ROWS.length && many - ahead < ROWS.length) {
                    sum += ROWS[ahead] * ROWS[many - ahead] * (worths[set | one] - worths[set]);
                }
            }
            return sum;
        }
    }

    /** In how many ways those in the QUEUE may have ASKED. What one ASKS counts from NOBODY as 0 on. */
    private static final class Secrets {
        private static final int VALUES = 8;

        private final int[] options = new int[PEOPLE];
        private final int[] guessed = new int[PEOPLE];
        private final int[] came = new int[PEOPLE];
        private final boolean[] toldOf = new boolean[PEOPLE];
        private long[] counted = new long[VALUES * VALUES];
        private long[] next = new long[VALUES * VALUES];
        private Told told;
        private State state;
        private Flow flow;

        void begin(Told newTold, State newState, Flow newFlow, Tray tray) {
            told = newTold;
            state = newState;
            flow = newFlow;
            flow.layLawful(told, state);
            flow.layAhead(told, state);
            for (int place = 0; place < state.standing; place++) {
                options[place] = optionsAt(place);
                int number = (int) tray.numberAt(place);
                toldOf[place] = number != NONE;
                came[place] = number == WATER_IN_TRAY ? NONE : number;
            }
        }

        private int optionsAt(int place) {
            int set = 0;
            for (int g = 0; g < told.goods; g++) {
                if (flow.mayAsk(place, g)) {
                    set |= 1 << g - NOBODY;
                }
            }
            return set == 0 ? 1 << NONE - NOBODY : set;
        }

        long ways() {
            return state.ring && state.standing > 0 ? waysRound() : waysBehind(options);
        }

        /** What the one at a place ASKED in all ways; WATER and NONE are one number. */
        int onlyAsked(int place) {
            int open = options[place];
            int found = NONE;
            int many = 0;
            for (int value = 0; value < VALUES && many < 2; value++) {
                options[place] = open & 1 << value;
                if (options[place] != 0 && ways() > 0) {
                    found = value + NOBODY;
                    many++;
                }
            }
            options[place] = open;
            return many == 1 ? found : NONE;
        }

        /** Round a ring what the last three ASKED is guessed; they stand ahead of the first one then. */
        private long waysRound() {
            long sum = 0;
            for (int guess = 0; guess < VALUES * VALUES * VALUES; guess++) {
                if (takeGuess(guess)) {
                    sum += waysBehind(guessed);
                }
            }
            return sum;
        }

        private boolean takeGuess(int guess) {
            System.arraycopy(options, 0, guessed, 0, PEOPLE);
            int rest = guess;
            for (int back = 1; back <= AHEAD; back++) {
                int place = Flow.placeRound(back, state.standing);
                int value = rest % VALUES;
                rest /= VALUES;
                guessed[place] &= 1 << value;
                if (guessed[place] == 0) {
                    return false;
                }
                flow.line[AHEAD - back] = value + NOBODY;
            }
            return true;
        }

        /** The ways behind those who are laid ahead of the first one, counted by what the last two ASKED. */
        private long waysBehind(int[] open) {
            if (state.standing == 0) {
                return 1;
            }
            if (!fits(0, Flow.fallOf(told.way, flow.line[0], flow.line[1], flow.line[2]))) {
                return 0;
            }
            Arrays.fill(counted, 0L);
            counted[(flow.line[1] - NOBODY) * VALUES + flow.line[2] - NOBODY] = 1;
            for (int place = 0; place < state.standing; place++) {
                standNext(place, open[place]);
            }
            long sum = 0;
            for (int pair = 0; pair < VALUES * VALUES; pair++) {
                sum += counted[pair];
            }
            return sum;
        }

        private void standNext(int place, int open) {
            Arrays.fill(next, 0L);
            for (int pair = 0; pair < VALUES * VALUES; pair++) {
                if (counted[pair] != 0) {
                    int two = pair / VALUES + NOBODY;
                    int one = pair % VALUES;
                    for (int value = 0; value < VALUES; value++) {
                        if ((open & 1 << value) != 0
                                && fits(place + 1, Flow.fallOf(told.way, two, one + NOBODY, value + NOBODY))) {
                            next[one * VALUES + value] += counted[pair];
                        }
                    }
                }
            }
            long[] spare = counted;
            counted = next;
            next = spare;
        }

        private boolean fits(int place, int falls) {
            return place >= state.standing || !toldOf[place] || came[place] == falls;
        }
    }

    /** Reads THE WELL along its text and stops at the first FAULT. */
    private static final class Reader {
        private static final String SIGNS = ";+-*()[]=<>";
        private static final int MOST_DEEP = 6;
        private static final int BAD_TOKEN = 1;
        private static final int BAD_PLACE = 2;
        private static final int BAD_NUMBER = 3;
        private static final int TOO_MANY = 4;
        // kinds of TOKENS; a sign's kind is the sign
        private static final int END = 0;
        private static final int BAD = 1;
        private static final int NUMBER = 2;
        private static final int UNKNOWN = 3;
        private static final int WORDS = 256;
        // each word with a blank behind it, in the order of their kinds, the names as in the law
        private static final String LIST =
                "goods person asks apart likes behind middle ring night ruin law not and or good worth age gold place others total day ";
        private static final int W_GOODS = WORDS;
        private static final int W_PERSON = WORDS + 1;
        private static final int W_ASKS = WORDS + 2;
        private static final int W_APART = WORDS + 3;
        private static final int W_LIKES = WORDS + 4;
        private static final int W_BEHIND = WORDS + 5;
        private static final int W_MIDDLE = WORDS + 6;
        private static final int W_RING = WORDS + 7;
        private static final int W_NIGHT = WORDS + 8;
        private static final int W_RUIN = WORDS + 9;
        private static final int W_LAW = WORDS + 10;
        private static final int W_NOT = WORDS + 11;
        private static final int W_AND = WORDS + 12;
        private static final int W_OR = WORDS + 13;
        private static final int W_NAMES = WORDS + 14;
        private static final int W_LAST = W_NAMES + Law.NAMED - 1;

        int fault;
        int faultPlace;
        final Told told = new Told();
        final State state = new State();
        private final char[] list = LIST.toCharArray();
        private byte[] text;
        private int length;
        private int at;
        private int kind;
        private int start;
        private int number;

        void read(byte[] newText, int newLength) {
            text = newText;
            length = Math.max(0, Math.min(newLength, newText.length));
            at = 0;
            fault = 0;
            faultPlace = NONE;
            told.clear();
            state.clear();
            next();
            if (readGoods()) {
                boolean more = true;
                for (int i = 0; i < length && more && kind != END; i++) {
                    more = readLine() && take(';');
                    told.lines++;
                }
            }
        }

        // ---- TOKENS

        private void next() {
            while (at < length && (text[at] == 10 || text[at] == 32)) {
                at++;
            }
            start = at;
            if (at >= length) {
                kind = END;
            } else if (text[at] >= '0' && text[at] <= '9') {
                nextNumber();
            } else if (text[at] >= 'a' && text[at] <= 'z') {
                nextWord();
            } else {
                kind = SIGNS.indexOf((char) (text[at] & 255)) >= 0 ? text[at] : BAD;
                at++;
            }
        }

        private void nextNumber() {
            number = 0;
            while (at < length && text[at] >= '0' && text[at] <= '9') {
                if (at - start < 3) {
                    number = 10 * number + text[at] - '0';
                }
                at++;
            }
            kind = at - start <= 3 ? NUMBER : BAD;
        }

        /** Goes along the list once, with how much of the word stands there (below 0: it doesn't). */
        private void nextWord() {
            while (at < length && text[at] >= 'a' && text[at] <= 'z') {
                at++;
            }
            kind = UNKNOWN;
            int word = WORDS;
            int same = 0;
            for (int i = 0; i < list.length; i++) {
                char sign = list[i];
                if (sign == ' ') {
                    if (same == at - start) {
                        kind = word;
                    }
                    word++;
                    same = 0;
                } else if (same >= 0 && same < at - start && text[start + same] == sign) {
                    same++;
                } else {
                    same = -1;
                }
            }
        }

        // ---- FAULTS: what follows answers false behind one

        private boolean refuse(int why) {
            fault = kind == BAD ? BAD_TOKEN : why;
            faultPlace = start;
            return false;
        }

        private boolean take(int wanted) {
            if (kind != wanted) {
                return refuse(BAD_PLACE);
            }
            next();
            return true;
        }

        private boolean takeNumber(int least, int most) {
            if (kind != NUMBER) {
                return refuse(BAD_PLACE);
            }
            return number < least || number > most ? refuse(BAD_NUMBER) : true;
        }

        // ---- LINES

        private boolean readGoods() {
            if (!take(W_GOODS) || !takeNumber(1, GOODS)) {
                return false;
            }
            told.goods = number;
            told.lines = 1;
            next();
            return take(';');
        }

        private boolean readLine() {
            switch (kind) {
                case W_PERSON:
                    return readPerson();
                case W_APART:
                    return readApart();
                case W_LIKES:
                    return readLikes();
                case W_BEHIND:
                    return readBehind();
                case W_MIDDLE:
                    told.way = WAYS;
                    break;
                case W_RING:
                    state.ring = true;
                    break;
                case W_NIGHT:
                    told.night = true;
                    break;
                case W_RUIN:
                    return readRuin();
                case W_LAW:
                    next();
                    told.law.clear();
                    return readTruth(0);
                default:
                    return refuse(BAD_PLACE);
            }
            next();
            return true;
        }

        private boolean readPerson() {
            int p = told.people;
            if (p >= PEOPLE) {
                return refuse(TOO_MANY);
            }
            next();
            if (!take(W_NAMES + Law.AGE) || !takeNumber(0, 99)) {
                return false;
            }
            told.age[p] = number;
            next();
            if (!take(W_NAMES + Law.GOLD) || !takeNumber(0, 999)) {
                return false;
            }
            state.gold[p] = number;
            next();
            if (!take(W_ASKS) || !takeNumber(0, told.goods - 1)) {
                return false;
            }
            state.asks[p] = number;
            next();
            if (!take(W_NAMES + Law.WORTH)) {
                return false;
            }
            for (int g = 0; g < told.goods; g++) {
                boolean less = takeSign();
                if (!takeNumber(0, 99)) {
                    return false;
                }
                told.setWorth(p, g, less ? -number : number);
                next();
            }
            told.people++;
            state.putLast(p);
            return true;
        }

        private boolean takeSign() {
            boolean less = kind == '-';
            if (less) {
                next();
            }
            return less;
        }

        private boolean readApart() {
            if (told.aparts >= APARTS) {
                return refuse(TOO_MANY);
            }
            next();
            if (!takeNumber(0, told.people - 1)) {
                return false;
            }
            int one = number;
            next();
            if (!takeOther(one)) {
                return false;
            }
            told.apart[one] |= 1 << number;
            told.apart[number] |= 1 << one;
            told.aparts++;
            next();
            return true;
        }

        private boolean takeOther(int one) {
            if (!takeNumber(0, told.people - 1)) {
                return false;
            }
            return number == one ? refuse(BAD_NUMBER) : true;
        }

        private boolean readLikes() {
            next();
            if (!takeNumber(0, told.people - 1)) {
                return false;
            }
            int one = number;
            next();
            if (!takeOther(one)) {
                return false;
            }
            int other = number;
            next();
            boolean less = takeSign();
            if (!takeNumber(0, 9)) {
                return false;
            }
            told.setLikes(one, other, less ? -number : number);
            next();
            return true;
        }

        private boolean readBehind() {
            next();
            if (!takeNumber(1, 2)) {
                return false;
            }
            told.way = number;
            next();
            return true;
        }

        private boolean readRuin() {
            next();
            if (!takeNumber(1, 999)) {
                return false;
            }
            told.ruin = number;
            next();
            return true;
        }

        // ---- the law; depth: how many of not [ ( stand open

        private boolean readTruth(int depth) {
            boolean fine = readBoth(depth);
            for (int i = 0; i < length && fine && kind == W_OR; i++) {
                next();
                fine = readBoth(depth);
                told.law.add(Law.OR);
            }
            return fine;
        }

        private boolean readBoth(int depth) {
            boolean fine = readUnit(depth);
            for (int i = 0; i < length && fine && kind == W_AND; i++) {
                next();
                fine = readUnit(depth);
                told.law.add(Law.AND);
            }
            return fine;
        }

        private boolean readUnit(int depth) {
            if ((kind == W_NOT || kind == '[') && depth >= MOST_DEEP) {
                return refuse(TOO_MANY);
            }
            if (kind == '[') {
                next();
                return readTruth(depth + 1) && take(']');
            }
            if (kind == W_NOT) {
                next();
                boolean fine = readUnit(depth + 1);
                told.law.add(Law.NOT);
                return fine;
            }
            if (!readSum(depth)) {
                return false;
            }
            int join = kind;
            if (join != '=' && join != '<' && join != '>') {
                return refuse(BAD_PLACE);
            }
            next();
            boolean fine = readSum(depth);
            told.law.add(Law.JOINS + join);
            return fine;
        }

        private boolean readSum(int depth) {
            boolean fine = readTerm(depth);
            for (int i = 0; i < length && fine && (kind == '+' || kind == '-'); i++) {
                int join = kind;
                next();
                fine = readTerm(depth);
                told.law.add(Law.JOINS + join);
            }
            return fine;
        }

        private boolean readTerm(int depth) {
            boolean fine = readAtom(depth);
            for (int i = 0; i < length && fine && kind == '*'; i++) {
                next();
                fine = readAtom(depth);
                told.law.add(Law.TIMES);
            }
            return fine;
        }

        private boolean readAtom(int depth) {
            if (kind == '(') {
                if (depth >= MOST_DEEP) {
                    return refuse(TOO_MANY);
                }
                next();
                return readSum(depth + 1) && take(')');
            }
            if (kind == NUMBER) {
                told.law.add(number);
            } else if (kind >= W_NAMES && kind <= W_LAST) {
                told.law.add(Law.NAMES + kind - W_NAMES);
            } else {
                return refuse(BAD_PLACE);
            }
            next();
            return true;
        }
    }
}
