/** The boundary cases of DEEDS and of promises 12 to 24. */
final class DeedBoundsTest {
    private static final int[] FAR = {Integer.MIN_VALUE, -1, 3, Integer.MAX_VALUE};

    private DeedBoundsTest() {
    }

    public static void main(String[] args) {
        ask();
        days();
        ruin();
        leave();
        join();
        move();
        trade();
        tradeOfGains();
        trades();
        auctionRefused();
        auctionBids();
        auctionPays();
        ring();
        undo();
        eachIsUndone();
        judgeRefused();
        toldDeeds();
        judged();
        perform();
        seasonRefused();
        seasonDraws();
        Check.end();
    }

    // ---- promise 12

    private static void ask() {
        WellQueue x = Wells.of(Wells.THREE + "law good=0 or place=0;");
        for (int far : FAR) {
            Check.noSuch("12: no PERSON " + far, () -> x.ask(far, 0));
        }
        for (int far : new int[] {Integer.MIN_VALUE, -1, 2, Integer.MAX_VALUE}) {
            Check.noSuch("12: no GOOD " + far, () -> x.ask(0, far));
        }
        x.leave(2);
        Check.badState("12: it isn't in the QUEUE", () -> x.ask(2, 0));
        Check.noSuch("12: told first: no such GOOD", () -> x.ask(2, 2));
        Check.due("12: throws are no DEEDS", 1, () -> x.count(10));
        Check.due("12: 1 if it is ALLOWED", 1, () -> x.ask(0, 1));
        Check.due("12: else 0", 0, () -> x.ask(1, 1));
        Check.due("12: it ASKS that all the same", 1, () -> x.person(1, 1));
        x.join(2);
        Check.due("12: WATER falls by it", -1, () -> x.person(2, 5));
        x.undo(1);
        Check.due("12: the same GOOD again", 0, () -> x.ask(1, 1));
        Check.due("12: each a DEED", 4, () -> x.count(10));
    }

    // ---- promise 13

    private static void days() {
        WellQueue x = Wells.of(Wells.THREE);
        for (int n : new int[] {Integer.MIN_VALUE, -1, 0, 61, Integer.MAX_VALUE}) {
            Check.badArgument("13: " + n + " DAYS", () -> x.days(n));
        }
        Check.due("13: no DAY of these", 0, () -> x.count(4));
        Check.due("13: no DEED of these", 0, () -> x.count(10));
        Check.due("13: 1 DAY", 3, () -> x.days(1));
        Check.due("13: 60 DAYS", 180, () -> x.days(60));
        Check.due("13: DAY 61", 61, () -> x.count(4));
        Check.due("13: each call as a whole", 2, () -> x.count(10));
        x.undo(1);
        Check.due("13: all of it UNDONE", 1, () -> x.count(4));
        WellQueue none = new WellQueue();
        Check.due("13: nobody", 0, () -> none.days(60));
        Check.due("13: DAYS of nobody", 60, () -> none.count(4));
        Check.due("13: a DEED of nobody", 1, () -> none.count(10));
        WellQueue law = Wells.of("goods 1;person age 1 gold 0 asks 0 worth 1;person age 1 gold 0 asks 0 worth 1;"
                + "person age 1 gold 0 asks 0 worth 1;law total=0;");
        Check.due("13: by what is ASKED as the day begins", 2, () -> law.days(1));
        Check.due("13: p1's TOTAL is 1 on the next one", 1, () -> law.days(1));
    }

    private static WellQueue losing(int each, int ruin) {
        return Wells.of("goods 1;ruin " + ruin + ";person age 1 gold 0 asks 0 worth 0;"
                + "person age 1 gold 0 asks 0 worth -" + each + ";");
    }

    private static void ruin() {
        WellQueue just = losing(3, 3);
        just.days(1);
        Check.due("ruin: 0 less ruin", -1, () -> just.person(1, 0));
        Check.due("ruin: its TOTAL stays", -3, () -> just.person(1, 4));
        WellQueue above = losing(3, 4);
        above.days(1);
        Check.due("ruin: one above it", 1, () -> above.person(1, 0));
        above.days(1);
        Check.due("ruin: below it", -1, () -> above.person(1, 0));
        WellQueue least = losing(1, 1);
        Check.due("ruin 1: what FELL ahead of it counts", -1, () -> least.days(60));
        Check.due("ruin 1: on the first DAY", -1, () -> least.person(1, 4));
        WellQueue most = losing(99, 999);
        most.days(10);
        Check.due("ruin 999: -990", 1, () -> most.person(1, 0));
        most.days(1);
        Check.due("ruin 999: -1089", -1, () -> most.person(1, 0));
        WellQueue none = Wells.of("goods 1;person age 1 gold 0 asks 0 worth 0;person age 1 gold 0 asks 0 worth -99;");
        none.days(60);
        Check.due("none without", 1, () -> none.person(1, 0));
        WellQueue many = Wells.of("goods 1;ruin 5;ring;person age 1 gold 0 asks 0 worth -5;"
                + "person age 1 gold 0 asks 0 worth -6;person age 1 gold 0 asks 0 worth 1;"
                + "person age 1 gold 0 asks 0 worth -7;");
        Check.due("ruin: three on one DAY", -17, () -> many.days(1));
        Check.due("ruin: one stays", 1, () -> many.count(3));
        Check.due("ruin: it closes up", 2, () -> many.at(0));
        many.join(3);
        Check.due("ruin: it may JOIN", 1, () -> many.person(3, 0));
        many.ask(2, 0);
        many.leave(2);
        many.days(1);
        Check.due("ruin: again, whatever FALLS", 0, () -> many.count(3));
        many.days(1);
        Check.due("ruin: who is out of the QUEUE stays as it is", -14, () -> many.person(3, 4));
    }

    // ---- promises 14 to 16

    private static void leave() {
        WellQueue x = Wells.of(Wells.THREE);
        for (int far : FAR) {
            Check.noSuch("14: no PERSON " + far, () -> x.leave(far));
        }
        Check.due("14: the last one", 2, () -> x.leave(2));
        Check.due("14: the first one", 1, () -> x.leave(0));
        Check.due("14: those behind close up", 1, () -> x.at(0));
        Check.badState("14: it isn't in the QUEUE", () -> x.leave(0));
        Check.due("14: nobody is left", 0, () -> x.leave(1));
        Check.badState("14: an empty QUEUE", () -> x.leave(1));
        Check.due("14: three DEEDS", 3, () -> x.count(10));
    }

    private static void join() {
        WellQueue x = Wells.of(Wells.THREE);
        for (int far : FAR) {
            Check.noSuch("15: no PERSON " + far, () -> x.join(far));
        }
        Check.badState("15: the first one is in the QUEUE", () -> x.join(0));
        Check.badState("15: the last one is in the QUEUE", () -> x.join(2));
        Check.due("15: throws are no DEEDS", 0, () -> x.count(10));
        x.leave(0);
        x.leave(1);
        x.leave(2);
        Check.due("15: an empty QUEUE", 0, () -> x.join(2));
        Check.due("15: behind the last", 1, () -> x.join(0));
        Check.due("15: behind all", 2, () -> x.join(1));
        Check.badState("15: it is in the QUEUE again", () -> x.join(1));
        String person = "person age 1 gold 0 asks 0 worth 0;";
        WellQueue full = Wells.of("goods 1;" + person.repeat(8));
        full.leave(3);
        Check.due("15: the eighth place", 7, () -> full.join(3));
        Check.badState("15: a full QUEUE", () -> full.join(3));
    }

    private static void move() {
        WellQueue x = Wells.of(Wells.THREE);
        for (int far : FAR) {
            Check.noSuch("16: no PERSON " + far, () -> x.move(far, 0));
            Check.noSuch("16: told first, PERSON " + far, () -> x.move(far, 3));
            Check.badArgument("16: no place " + far, () -> x.move(0, far));
        }
        Check.due("16: throws are no DEEDS", 0, () -> x.count(10));
        Check.due("16: to the place where it is", 0, () -> x.move(0, 0));
        Check.due("16: to the last place", 5, () -> x.move(0, 2));
        Check.due("16: those between shift: first", 1, () -> x.at(0));
        Check.due("16: those between shift: second", 2, () -> x.at(1));
        Check.due("16: to the first place", 0, () -> x.move(0, 0));
        Check.due("16: those between shift back: second", 1, () -> x.at(1));
        Check.due("16: those between shift back: third", 2, () -> x.at(2));
        Check.due("16: those beyond stay", 2, () -> x.move(1, 1));
        Check.due("16: one place on: worth 1 to p1, less to p0", -3, () -> x.move(0, 1));
        x.undo(1);
        x.leave(2);
        Check.badArgument("16: a place that was", () -> x.move(0, 2));
        Check.badState("16: it isn't in the QUEUE", () -> x.move(2, 0));
        Check.badState("16: told first: it isn't in the QUEUE", () -> x.move(2, 9));
    }

    // ---- promises 17 and 18

    private static WellQueue pair(int gold, int worth, int otherGold, int otherWorth) {
        return Wells.of("goods 1;person age 1 gold " + gold + " asks 0 worth " + worth
                + ";person age 1 gold " + otherGold + " asks 0 worth " + otherWorth + ";");
    }

    private static void trade() {
        WellQueue x = Wells.of(Wells.THREE);
        for (int place : new int[] {Integer.MIN_VALUE, -1, 3, 4, Integer.MAX_VALUE}) {
            Check.badArgument("17: nobody stands there " + place, () -> x.trade(place));
        }
        Check.badArgument("17: nobody behind", () -> x.trade(2));
        x.ring();
        Check.badArgument("17: nobody behind, nor round a ring", () -> x.trade(2));
        x.leave(0);
        x.leave(1);
        Check.badArgument("17: one alone", () -> x.trade(0));
        x.leave(2);
        Check.badArgument("17: an empty QUEUE", () -> x.trade(0));
        WellQueue none = new WellQueue();
        Check.badArgument("17: no PEOPLE", () -> none.trade(0));
    }

    /** Two by one GOOD: who goes behind gains its worth, who goes ahead loses it. */
    private static void tradeOfGains() {
        WellQueue even = pair(9, 5, 9, 5);
        Check.due("17: no more to both together", 0, () -> even.trade(0));
        Check.due("17: no DEED", 0, () -> even.count(10));
        WellQueue less = pair(9, 4, 9, 5);
        Check.due("17: less to both together", 0, () -> less.trade(0));
        WellQueue one = pair(9, 5, 9, 4);
        Check.due("17: one more: 5 and -4", 1, () -> one.trade(0));
        Check.due("17: half of 9, cut", 5, () -> one.person(0, 3));
        Check.due("17: to the other one", 13, () -> one.person(1, 3));
        WellQueue alike = pair(0, 3, 0, -3);
        Check.due("17: both gain alike", 6, () -> alike.trade(0));
        Check.due("17: nothing is paid, and it is a DEED", 1, () -> alike.count(10));
        WellQueue cut = pair(0, 4, 0, -3);
        Check.due("17: half of 1 is 0", 7, () -> cut.trade(0));
        WellQueue exact = pair(2, 7, 0, -3);
        Check.due("17: it has just as much gold", 10, () -> exact.trade(0));
        Check.due("17: it has none then", 0, () -> exact.person(0, 3));
        WellQueue poor = pair(1, 7, 99, -3);
        Check.due("17: it has less gold", 0, () -> poor.trade(0));
        Check.due("17: they stand as before", 0, () -> poor.at(0));
        WellQueue second = pair(99, 3, 2, -7);
        Check.due("17: the second one gains more and has as much", 10, () -> second.trade(0));
        Check.due("17: the first one is paid", 101, () -> second.person(0, 3));
        WellQueue secondPoor = pair(99, 3, 1, -7);
        Check.due("17: the second one has less", 0, () -> secondPoor.trade(0));
    }

    private static void trades() {
        WellQueue none = new WellQueue();
        Check.due("18: nobody", 0, none::trades);
        WellQueue one = Wells.of("goods 1;person age 1 gold 0 asks 0 worth 5;");
        Check.due("18: one alone", 0, one::trades);
        WellQueue calm = pair(9, 5, 9, 5);
        Check.due("18: there is none", 0, calm::trades);
        Check.due("18: no DEED", 0, () -> calm.count(10));
        WellQueue x = pair(9, 5, 9, 4);
        Check.due("18: one of them", 1, x::trades);
        Check.due("18: each a DEED", 1, () -> x.count(10));
        WellQueue left = pair(9, 5, 9, 4);
        left.leave(1);
        Check.due("18: nobody stands behind any more", 0, left::trades);
        Check.due("18: who left isn't asked", 18, () -> left.count(8));
        WellQueue full = Wells.of("goods 1;" + "person age 1 gold 9 asks 0 worth 1;".repeat(8));
        Check.due("18: a full QUEUE", 0, full::trades);
        WellQueue lastTwo = Wells.of("goods 2;person age 1 gold 0 asks 1 worth -9 0;person age 1 gold 9 asks 0 worth 0 -5;"
                + "person age 1 gold 9 asks 0 worth 0 0;");
        Check.due("18: at the last place but one: no -5 FALLS to p1 then", 1, lastTwo::trades);
        Check.due("18: those two", 2, () -> lastTwo.at(1));
        WellQueue endless = Wells.of("goods 2;ring;behind 2;person age 0 gold 99 asks 1 worth 0 0;"
                + "person age 0 gold 99 asks 0 worth -5 -2;person age 0 gold 99 asks 1 worth -2 5;"
                + "person age 0 gold 99 asks 0 worth -1 -1;");
        Check.due("18: 50 at most", 50, endless::trades);
        Check.due("18: 12 of these can be UNDONE", 12, () -> endless.count(10));
    }

    // ---- promise 19

    private static final String FOUR = "goods 1;person age 30 gold 10 asks 0 worth 0;"
            + "person age 40 gold 10 asks 0 worth 0;person age 40 gold 10 asks 0 worth 0;"
            + "person age 20 gold 10 asks 0 worth 0;";

    private static void auctionRefused() {
        WellQueue x = Wells.of(FOUR);
        for (int tray : new int[] {Integer.MIN_VALUE, -1, 4, Integer.MAX_VALUE}) {
            Check.noSuch("19: no TRAY " + tray, () -> x.auction(0, tray));
            Check.noSuch("19: told first, TRAY " + tray, () -> x.auction(4, tray));
        }
        Check.badState("19: it is MISSING", () -> x.auction(0, 3));
        Check.badState("19: told first: it is MISSING", () -> x.auction(4, 3));
        Wells.fill(x, 3, 5, 5, 5, 5);
        for (int place : new int[] {Integer.MIN_VALUE, -1, 4, Integer.MAX_VALUE}) {
            Check.badArgument("19: no place " + place, () -> x.auction(place, 3));
        }
        x.leave(0);
        Check.badArgument("19: a place that was", () -> x.auction(3, 3));
        Check.due("19: throws are no DEEDS", 1, () -> x.count(10));
        WellQueue none = new WellQueue();
        Wells.fill(none, 0, 5);
        Check.badArgument("19: an empty QUEUE", () -> none.auction(0, 0));
    }

    private static void wins(String name, int due, long... bids) {
        WellQueue x = Wells.of(FOUR);
        Wells.fill(x, 0, bids);
        Check.due("19: " + name, due, () -> x.auction(2, 0));
        Check.due("19: a DEED or none, " + name, due < 0 ? 0 : 1, () -> x.count(10));
    }

    private static void auctionBids() {
        wins("no bids", -1);
        wins("bids of 0", -1, 0, 0, 0, 0);
        wins("below 1", -1, 0, -1, -10, Long.MIN_VALUE);
        wins("above one's gold", -1, 11, 999, Integer.MAX_VALUE, Long.MAX_VALUE);
        wins("a bid that is 10 in its low half", -1, 4294967306L);
        wins("nobody's bids", -1, 0, 0, 0, 0, 5, 5, 5, 5, 5);
        wins("a bid of 1", 3, 0, 0, 0, 1);
        wins("all one's gold", 0, 10, 9, 9, 9);
        wins("above it by 1", 1, 11, 9, 8, 7);
        wins("the highest", 3, 1, 2, 3, 4);
        wins("the greater AGE", 1, 7, 7, 0, 7);
        wins("then the first PERSON", 1, 7, 7, 7, 7);
        wins("the first PERSON of like AGE", 2, 7, 6, 7, 7);
        wins("AGE only of like bids", 3, 6, 6, 6, 7);
        wins("fewer bids than PEOPLE", 0, 3);
        WellQueue out = Wells.of(FOUR);
        out.leave(1);
        Wells.fill(out, 0, 2, 9, 1, 1);
        Check.due("19: those not in the QUEUE", 0, () -> out.auction(2, 0));
        Check.due("19: it pays 1, not 9", 9, () -> out.person(0, 3));
        WellQueue moved = Wells.of(FOUR);
        moved.move(2, 0);
        Wells.fill(moved, 0, 7, 7, 7, 7);
        Check.due("19: the first PERSON, not the first place", 1, () -> moved.auction(3, 0));
        WellQueue full = Wells.of(FOUR);
        full.tray(0, 0, 30);
        full.write(0, 3, 258);
        full.write(0, 29, 9);
        Check.due("19: 30 bids, one cut to 2", 3, () -> full.auction(0, 0));
    }

    private static void gold(String name, WellQueue x, int... due) {
        for (int p = 0; p < due.length; p++) {
            int q = p;
            Check.due("19: gold of " + p + ", " + name, due[p], () -> x.person(q, 3));
        }
        Check.due("19: all gold, " + name, 40, () -> x.count(8));
    }

    private static void auctionPays() {
        WellQueue alone = Wells.of(FOUR);
        Wells.fill(alone, 0, 0, 0, 0, 5);
        alone.auction(0, 0);
        gold("0 without a second", alone, 10, 10, 10, 10);
        Check.due("19: it MOVES there", 3, () -> alone.at(0));
        Check.due("19: those between shift", 0, () -> alone.at(1));
        WellQueue second = Wells.of(FOUR);
        Wells.fill(second, 0, 4, 9, 6, 11);
        second.auction(3, 0);
        gold("the second highest that counts", second, 10, 4, 10, 16);
        WellQueue like = Wells.of(FOUR);
        Wells.fill(like, 0, 10, 10, 10, 10);
        like.auction(0, 0);
        gold("a like one", like, 20, 0, 10, 10);
        WellQueue holder = Wells.of(FOUR);
        Wells.fill(holder, 0, 9, 10, 9, 9);
        Check.due("19: it stands there itself", 1, () -> holder.auction(1, 0));
        gold("it pays nothing", holder, 10, 10, 10, 10);
        Check.due("19: it stays there", 1, () -> holder.at(1));
        Check.due("19: and that is a DEED", 1, () -> holder.count(10));
        WellQueue bidding = Wells.of(FOUR);
        Wells.fill(bidding, 0, 9, 10);
        bidding.auction(0, 0);
        gold("the second one stands there itself", bidding, 19, 1, 10, 10);
    }

    // ---- promises 20 and 21

    private static void ring() {
        WellQueue none = new WellQueue();
        Check.due("20: on, of nobody", 1, none::ring);
        Check.due("20: off, of nobody", 0, none::ring);
        Check.due("20: two DEEDS", 2, () -> none.count(10));
        WellQueue told = Wells.of(Wells.THREE + "ring;");
        Check.due("20: off, if it was told", 0, told::ring);
        Check.due("20: on again", 1, told::ring);
        told.undo(2);
        Check.due("20: UNDONE", 1, () -> told.count(6));
    }

    private static void undo() {
        WellQueue x = Wells.of(Wells.THREE);
        for (int n : new int[] {Integer.MIN_VALUE, -1, 0, 1, 12, 13, Integer.MAX_VALUE}) {
            Check.badArgument("21: there aren't so many, " + n, () -> x.undo(n));
        }
        x.days(1);
        Check.badArgument("21: 2 of 1", () -> x.undo(2));
        Check.badArgument("21: 0 of 1", () -> x.undo(0));
        Check.due("21: the only one", 0, () -> x.undo(1));
        for (int i = 0; i < 12; i++) {
            x.days(1);
        }
        Check.badArgument("21: 13 of 12", () -> x.undo(13));
        Check.due("21: all 12 of 12", 0, () -> x.undo(12));
        Check.due("21: as at first", 0, () -> x.count(4));
        for (int i = 0; i < 13; i++) {
            x.days(1);
        }
        Check.due("21: 12 at most of 13", 12, () -> x.count(10));
        Check.badArgument("21: 13 of 13", () -> x.undo(13));
        for (int day = 12; day >= 1; day--) {
            int then = day;
            Check.due("21: how many still can be", then - 1, () -> x.undo(1));
            Check.due("21: the latest first, DAY " + then, then, () -> x.count(4));
        }
        Check.badArgument("21: the eldest is forgotten", () -> x.undo(1));
        for (int i = 0; i < 30; i++) {
            x.days(1);
        }
        x.undo(5);
        x.days(7);
        Check.due("21: 7 and 1", 8, () -> x.count(10));
        Check.due("21: those and the eldest kept", 0, () -> x.undo(8));
        Check.due("21: DAY 1 and 18", 19, () -> x.count(4));
    }

    private interface Deed {
        void make(WellQueue x);
    }

    private static void undone(String name, int many, Deed deed) {
        WellQueue x = Wells.of("goods 2;night;ruin 9;person age 30 gold 10 asks 0 worth 9 -3;"
                + "person age 40 gold 4 asks 1 worth 2 7;person age 50 gold 9 asks 0 worth -4 1;");
        x.days(1);
        x.leave(2);
        x.join(2);
        Wells.fill(x, 0, 3, 4);
        Wells.fill(x, 1, 1, 112, -1);
        String before = Looks.at(x);
        deed.make(x);
        Check.due("DEEDS of " + name, 3 + many, () -> x.count(10));
        x.undo(many);
        Check.same(name + " UNDONE", before, Looks.at(x));
        x.undo(3);
        Check.due("all ahead of " + name, 0, () -> x.count(4));
    }

    private static void eachIsUndone() {
        undone("what is ASKED", 1, x -> x.ask(1, 0));
        undone("one LEAVES", 1, x -> x.leave(0));
        undone("one JOINS", 2, x -> {
            x.leave(0);
            x.join(0);
        });
        undone("one MOVES", 1, x -> x.move(0, 2));
        // p2 gets 1 for -4 by it, p1 the same as before: half of 5 is paid
        undone("a TRADE", 4, x -> {
            x.ask(0, 1);
            x.ask(1, 0);
            x.ask(2, 1);
            Check.due("a TRADE to be UNDONE", 5, () -> x.trade(1));
            Check.due("what was paid", 6, () -> x.person(1, 3));
        });
        undone("an AUCTION", 1, x -> x.auction(0, 0));
        undone("the ring turned", 1, WellQueue::ring);
        undone("DAYS as a whole", 1, x -> x.days(60));
        undone("TOLD DEEDS, each", 3, x -> x.perform(1));
        undone("to stand as BEST tells", 1, WellQueue::standBest);
        undone("a SEASON, each", 4, x -> x.season(2, 4));
    }

    // ---- promises 22 and 23

    private static void judgeRefused() {
        WellQueue x = Wells.of(Wells.THREE);
        for (int tray : new int[] {Integer.MIN_VALUE, -1, 4, Integer.MAX_VALUE}) {
            Check.noSuch("22: no TRAY " + tray, () -> x.judge(tray, 0));
            Check.noSuch("22: told first, TRAY " + tray, () -> x.judge(tray, 4));
            Check.noSuch("23: no TRAY " + tray, () -> x.perform(tray));
        }
        Check.badState("22: it is MISSING", () -> x.judge(3, 0));
        Check.badState("22: told first: it is MISSING", () -> x.judge(3, 4));
        Check.badState("23: it is MISSING", () -> x.perform(3));
        Wells.fill(x, 3, -1);
        for (int what : new int[] {Integer.MIN_VALUE, -1, 4, Integer.MAX_VALUE}) {
            Check.badArgument("22: another what " + what, () -> x.judge(3, what));
        }
    }

    /** Ahead of each stands a DAY; it is judged, then made till it can't be. */
    private static void why(String name, WellQueue x, long deed, int due) {
        Wells.fill(x, 0, -1, deed);
        int made = due == 0 ? -1 : 1;
        Check.due("22: " + name + " " + deed + ": the first place that can't be", made, () -> x.judge(0, 0));
        Check.due("22: " + name + " " + deed + ": why", due, () -> x.judge(0, 1));
        Check.due("23: " + name + " " + deed + ": how many were made", due == 0 ? 2 : 1, () -> x.perform(0));
        x.undo(due == 0 ? 2 : 1);
    }

    private static void toldDeeds() {
        WellQueue x = Wells.of(Wells.THREE);
        x.leave(1);
        x.leave(0);
        x.join(0);
        // p2 and p0 stand there
        for (long none : new long[] {-2, -3, -100, Long.MIN_VALUE, 200, 201, 300, 999, 4294967295L, Long.MAX_VALUE}) {
            why("no such number", x, none, 1);
        }
        for (long none : new long[] {30, 31, 40, 80, 90, 99, 130, 131, 190, 199}) {
            why("no such PERSON", x, none, 1);
        }
        for (long none : new long[] {2, 3, 9, 22, 29, 12}) {
            why("no such GOOD", x, none, 1);
        }
        for (long none : new long[] {102, 109, 122, 129, 112}) {
            why("no such place", x, none, 1);
        }
        for (long out : new long[] {10, 11, 110, 111}) {
            why("it isn't in the QUEUE", x, out, 2);
        }
        for (long fine : new long[] {-1, 0, 1, 20, 21, 100, 101, 120, 121}) {
            why("it can be", x, fine, 0);
        }
        String person = "person age 1 gold 0 asks 0 worth 0 0 0 0 0 0;";
        WellQueue full = Wells.of("goods 6;" + person.repeat(8));
        why("the last PERSON and GOOD", full, 75, 0);
        why("one GOOD more", full, 76, 1);
        why("one PERSON more", full, 80, 1);
        why("the last PERSON and place", full, 177, 0);
        why("one place more", full, 178, 1);
        why("one PERSON more", full, 180, 1);
        WellQueue left = Wells.of("goods 1;person age 1 gold 0 asks 0 worth 0;");
        left.leave(0);
        why("an empty QUEUE: no place", left, 100, 1);
        why("an empty QUEUE: it isn't in it", left, 0, 2);
        WellQueue none = new WellQueue();
        why("a DAY of nobody", none, -1, 0);
        why("no PEOPLE", none, 0, 1);
        why("no PEOPLE", none, 100, 1);
    }

    private static void judged() {
        WellQueue x = Wells.of(Wells.THREE + "ruin 4;");
        x.tray(0, 0, 0);
        long[] empty = {-1, 0, 0, 3};
        for (int what = 0; what < 4; what++) {
            int w = what;
            Check.due("22: no TOLD DEEDS, what " + what, empty[what], () -> x.judge(0, w));
        }
        Check.due("23: none is made", 0, () -> x.perform(0));
        Wells.fill(x, 0, 10, -1, 20, -1);
        long[] ruined = {2, 2, -2, 2};
        for (int what = 0; what < 4; what++) {
            int w = what;
            Check.due("22: p2 is RUINED ahead of it, what " + what, ruined[what], () -> x.judge(0, w));
        }
        Check.due("22: as if made", 3, () -> x.count(3));
        Wells.fill(x, 0, 10, -1, 102, -1);
        Check.due("22: that place is no more", 1, () -> x.judge(0, 1));
        x.tray(0, 3, 30);
        for (int i = 0; i < 30; i++) {
            x.write(0, i, -1);
        }
        Check.due("22: 30 DAYS, what FELL in all", 90, () -> x.judge(0, 2));
        Check.due("22: no DAY", 0, () -> x.count(4));
        x.write(0, 29, -2);
        Check.due("22: the last place", 29, () -> x.judge(0, 0));
        Check.due("22: 29 DAYS", 87, () -> x.judge(0, 2));
    }

    private static void perform() {
        WellQueue x = Wells.of(Wells.THREE);
        x.tray(0, 0, 30);
        for (int i = 0; i < 30; i++) {
            x.write(0, i, i % 2 == 0 ? -1 : 102 - i % 3);
        }
        Check.due("23: 30 of them", 30, () -> x.perform(0));
        Check.due("23: each a DEED, 12 at most", 12, () -> x.count(10));
        Check.due("23: 15 DAYS", 15, () -> x.count(4));
        x.undo(12);
        Check.due("23: 6 of these UNDONE", 9, () -> x.count(4));
        Wells.fill(x, 0, 200, -1);
        Check.due("23: the first can't be", 0, () -> x.perform(0));
        Check.due("23: nothing is made", 9, () -> x.count(4));
        Wells.fill(x, 0, -1, -1, -2, -1);
        Check.due("23: till one can't be", 2, () -> x.perform(0));
        Check.due("23: none behind it", 11, () -> x.count(4));
    }

    // ---- promise 24

    private static void seasonRefused() {
        WellQueue x = Wells.of(Wells.THREE);
        WellQueue none = Wells.of("goods 1;");
        WellQueue fresh = new WellQueue();
        for (int times : new int[] {Integer.MIN_VALUE, -1, 0, 31, Integer.MAX_VALUE}) {
            Check.badArgument("24: " + times + " times", () -> x.season(1, times));
            Check.badArgument("24: told first, " + times + " times", () -> none.season(1, times));
        }
        Check.badState("24: no PEOPLE", () -> none.season(1, 1));
        Check.badState("24: no well", () -> fresh.season(1, 30));
        Check.due("24: throws are no DEEDS", 0, () -> x.count(10));
        x.leave(0);
        x.leave(1);
        x.leave(2);
        Check.due("24: PEOPLE, but nobody in the QUEUE: only DAYS", 1, () -> x.season(1, 30) == x.count(4) ? 1 : 0);
    }

    private long seed;

    /** By longs, so that nothing wraps around unseen. */
    private int draw(int modulo) {
        seed = (1103515245L * seed + 12345L) & 0xffffffffL;
        return (int) ((seed >> 16) % modulo);
    }

    private int season(WellQueue x, int from, int times) {
        seed = from & 0xffffffffL;
        int made = 0;
        for (int i = 0; i < times; i++) {
            int kind = draw(3);
            if (kind == 0) {
                x.days(1);
                made++;
                continue;
            }
            int p = draw(x.count(2));
            int aim = draw(kind == 1 ? x.count(1) : x.count(2));
            if (x.person(p, 0) < 0 || (kind == 2 && aim >= x.count(3))) {
                continue;
            }
            if (kind == 1) {
                x.ask(p, aim);
            } else {
                x.move(p, aim);
            }
            made++;
        }
        return made;
    }

    private static void seasonDraws() {
        int[] seeds = {0, 1, -1, 2, 12345, 65535, 65536, -65536, Integer.MAX_VALUE, Integer.MIN_VALUE,
            Integer.MAX_VALUE - 1, Integer.MIN_VALUE + 1, 1103515245, -1103515245, 777, -777};
        for (int from : seeds) {
            seasonsOf(Wells.THREE + "ruin 7;night;", from);
            seasonsOf("goods 1;ring;person age 1 gold 0 asks 0 worth 1;", from);
            seasonsOf("goods 6;" + "person age 1 gold 0 asks 0 worth 1 2 3 4 5 -6;".repeat(8) + "ruin 2;", from);
        }
    }

    private static void seasonsOf(String text, int from) {
        for (int times : new int[] {1, 2, 30}) {
            WellQueue x = Wells.of(text);
            WellQueue y = Wells.of(text);
            int made = new DeedBoundsTest().season(y, from, times);
            Check.due("24: SEED " + from + ", " + times + " times", made, () -> x.season(from, times));
            Check.same("24: by DRAWS of SEED " + from + ", " + times + " times", Looks.at(y), Looks.at(x));
        }
    }
}
