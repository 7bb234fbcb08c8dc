/** The boundary cases of promises 25 to 36: orders, what is asked, places. */
final class SearchBoundsTest {
    private static final int[] FAR = {Integer.MIN_VALUE, -1, 3, Integer.MAX_VALUE};
    private static final String PLAIN = "person age 1 gold 0 asks 0 worth 1;";

    private SearchBoundsTest() {
    }

    public static void main(String[] args) {
        bestRefused();
        bestOfFew();
        bestOfLike();
        noOrder();
        orders();
        standBest();
        kindestRefused();
        kindest();
        settlesRefused();
        settles();
        plotRefused();
        plotSets();
        plotOfLike();
        promiseSets();
        promise();
        guard();
        guardAhead();
        price();
        bestPlace();
        worthOfRefused();
        worthOf();
        share();
        Check.end();
    }

    private static WellQueue many(int people) {
        return Wells.of("goods 1;" + PLAIN.repeat(people));
    }

    private static WellQueue emptied() {
        WellQueue x = Wells.of(Wells.THREE);
        x.leave(0);
        x.leave(1);
        x.leave(2);
        return x;
    }

    private static void row(String name, WellQueue x, int... due) {
        for (int k = 0; k < 8; k++) {
            int what = 10 + k;
            Check.due("25: " + name + ": best(" + what + ")", k < due.length ? due[k] : -1, () -> x.best(what));
        }
    }

    // ---- promise 25

    private static void bestRefused() {
        for (WellQueue x : new WellQueue[] {new WellQueue(), Wells.of(Wells.THREE), emptied(), many(8)}) {
            for (int what : new int[] {Integer.MIN_VALUE, -1, 1, 2, 9, 18, 19, Integer.MAX_VALUE}) {
                Check.badArgument("25: another what " + what, () -> x.best(what));
            }
        }
        WellQueue none = Wells.of(Wells.THREE + "apart 0 1;apart 1 2;apart 0 2;");
        Check.badArgument("25: another what, with no ORDER", () -> none.best(18));
    }

    private static void bestOfFew() {
        WellQueue nobody = new WellQueue();
        Check.due("25: nobody", 0, () -> nobody.best(0));
        row("nobody", nobody);
        WellQueue left = emptied();
        Check.due("25: all left", 0, () -> left.best(0));
        row("all left", left);
        left.join(2);
        Check.due("25: one alone", 0, () -> left.best(0));
        row("one alone", left, 2);
        left.ring();
        Check.due("25: one alone round a ring", -4, () -> left.best(0));
        WellQueue below = Wells.of("goods 1;person age 1 gold 0 asks 0 worth -3;person age 1 gold 0 asks 0 worth -5;");
        Check.due("25: the most may be below 0", -3, () -> below.best(0));
        row("below 0", below, 1, 0);
        WellQueue eight = many(8);
        Check.due("25: eight", 7, () -> eight.best(0));
        row("eight", eight, 0, 1, 2, 3, 4, 5, 6, 7);
        eight.leave(7);
        row("not so many", eight, 0, 1, 2, 3, 4, 5, 6);
    }

    private static void bestOfLike() {
        WellQueue x = many(4);
        x.move(3, 0);
        x.move(1, 3);
        row("of like ones the first by numbers of PEOPLE", x, 0, 1, 2, 3);
        WellQueue apart = Wells.of("goods 1;" + PLAIN.repeat(4) + "apart 0 1;apart 2 3;");
        row("of like ones the first that is an ORDER", apart, 0, 2, 1, 3);
        WellQueue ring = Wells.of(Wells.THREE + "ring;");
        row("round a ring: 0 1 2, 1 2 0, 2 0 1 are alike", ring, 0, 1, 2);
    }

    private static void noOrder() {
        WellQueue x = Wells.of(Wells.THREE + "apart 0 1;apart 1 2;apart 0 2;");
        Check.due("25: no ORDER", -1, () -> x.best(0));
        row("no ORDER", x);
        Check.due("26: no ORDER", 0, () -> x.orders(Integer.MIN_VALUE));
        Check.badState("27: no ORDER", x::standBest);
        Check.due("27: no DEED", 0, () -> x.count(10));
        x.leave(1);
        Check.due("25: two who are apart", -1, () -> x.best(0));
        Check.badState("27: two who are apart", x::standBest);
        x.leave(0);
        Check.due("25: one of them alone", 0, () -> x.best(0));
        Check.due("27: one of them alone", 0, x::standBest);
        x.leave(2);
        Check.due("25: none of them", 0, () -> x.best(0));
        Check.badState("27: none of them", x::standBest);
        WellQueue ring = Wells.of("goods 1;ring;" + PLAIN.repeat(3) + "apart 0 2;");
        Check.due("26: the last and the first aside", 2, () -> ring.orders(Integer.MIN_VALUE));
        row("the last and the first aside", ring, 0, 1, 2);
    }

    // ---- promises 26 and 27

    private static void orders() {
        WellQueue x = Wells.of(Wells.THREE);
        Check.due("26: at least what is BEST", 1, () -> x.orders(7));
        Check.due("26: one more", 0, () -> x.orders(8));
        Check.due("26: at least the least", 6, () -> x.orders(-7));
        Check.due("26: one above it", 5, () -> x.orders(-6));
        Check.due("26: the least int", 6, () -> x.orders(Integer.MIN_VALUE));
        Check.due("26: the greatest int", 0, () -> x.orders(Integer.MAX_VALUE));
        WellQueue nobody = emptied();
        Check.due("26: nobody: one row", 1, () -> nobody.orders(0));
        Check.due("26: nobody: at least 1", 0, () -> nobody.orders(1));
        Check.due("26: nobody: the least int", 1, () -> nobody.orders(Integer.MIN_VALUE));
        WellQueue eight = many(8);
        Check.due("26: eight", 40320, () -> eight.orders(7));
        Check.due("26: eight, one more", 0, () -> eight.orders(8));
        Check.due("26: what is BEST stays", 7, () -> eight.best(0));
        WellQueue two = Wells.of(Wells.THREE + "ring;");
        two.orders(100);
        Check.due("26: asking by another least", 3, () -> two.orders(8));
        Check.due("26: BEST behind it", 8, () -> two.best(0));
    }

    private static void standBest() {
        WellQueue nobody = new WellQueue();
        Check.badState("27: nobody in the QUEUE", nobody::standBest);
        Check.due("27: a throw is no DEED", 0, () -> nobody.count(10));
        WellQueue x = Wells.of(Wells.THREE);
        Check.due("27: what FALLS then", 7, x::standBest);
        Check.due("27: as BEST tells", 2, () -> x.at(0));
        Check.due("27: as it stands, a DEED all the same", 7, x::standBest);
        Check.due("27: two DEEDS", 2, () -> x.count(10));
        x.leave(1);
        WellQueue full = many(8);
        full.move(7, 0);
        Check.due("27: a full QUEUE", 7, full::standBest);
        Check.due("27: its first place", 0, () -> full.at(0));
        Check.due("27: its last place", 7, () -> full.at(7));
        Check.due("27: those in the QUEUE alone", 5, x::standBest);
        Check.due("27: p1 stays out of it", -1, () -> x.person(1, 0));
    }

    // ---- promise 28

    private static void kindestRefused() {
        WellQueue x = Wells.of(Wells.THREE);
        for (int far : FAR) {
            Check.noSuch("28: no PERSON " + far, () -> x.kindest(far, true));
            Check.noSuch("28: no PERSON, cruel " + far, () -> x.kindest(far, false));
        }
        x.leave(1);
        Check.badState("28: it isn't in the QUEUE", () -> x.kindest(1, true));
        Check.badState("28: it isn't in the QUEUE, cruel", () -> x.kindest(1, false));
    }

    private static void kindest() {
        WellQueue none = Wells.of(Wells.THREE + "law place>0;");
        Check.due("28: NONE, it is not ALLOWED any", -1, () -> none.kindest(0, true));
        Check.due("28: CRUEL NONE", -1, () -> none.kindest(0, false));
        Check.due("28: who is ALLOWED all", 1, () -> none.kindest(1, true));
        WellQueue last = Wells.of(Wells.THREE + "law good=1;");
        Check.due("28: the only one ALLOWED", 1, () -> last.kindest(1, false));
        WellQueue like = Wells.of("goods 3;person age 1 gold 0 asks 2 worth 0 0 0;person age 1 gold 0 asks 2 worth 4 4 4;");
        Check.due("28: of like ones the first", 0, () -> like.kindest(0, true));
        Check.due("28: of like ones the first, CRUEL", 0, () -> like.kindest(0, false));
        WellQueue some = Wells.of("goods 4;person age 1 gold 0 asks 0 worth 0 0 0 0;person age 1 gold 0 asks 0 worth -2 5 5 -2;");
        Check.due("28: the first of the most", 1, () -> some.kindest(0, true));
        Check.due("28: the first of the least", 0, () -> some.kindest(0, false));
        WellQueue below = Wells.of("goods 2;person age 1 gold 0 asks 0 worth 0 0;person age 1 gold 0 asks 0 worth -9 -5;");
        Check.due("28: the most is below 0", 1, () -> below.kindest(0, true));
        WellQueue then = Wells.of(Wells.THREE + "law day=0;");
        Check.due("28: ALLOWED on DAY 0", 1, () -> then.kindest(0, true));
        then.days(1);
        Check.due("28: NONE on DAY 1", -1, () -> then.kindest(0, true));
        WellQueue alone = Wells.of("goods 2;ring;person age 1 gold 0 asks 1 worth 1 9;");
        Check.due("28: nobody else", 0, () -> alone.kindest(0, true));
    }

    // ---- promise 29

    private static void settlesRefused() {
        WellQueue x = Wells.of(Wells.THREE);
        for (int what : new int[] {Integer.MIN_VALUE, -1, 3, 9, 13, 18, Integer.MAX_VALUE}) {
            Check.badArgument("29: another what " + what, () -> x.settles(what));
        }
        Check.due("29: the last PERSON", 0, () -> x.settles(12));
        WellQueue eight = many(8);
        Check.due("29: the eighth PERSON", 0, () -> eight.settles(17));
        Check.badArgument("29: no ninth", () -> eight.settles(18));
        WellQueue nobody = new WellQueue();
        Check.badArgument("29: no PEOPLE", () -> nobody.settles(10));
        Check.due("29: a round of nobody", 1, () -> nobody.settles(0));
        Check.due("29: it changed nothing", 1, () -> nobody.settles(1));
        Check.due("29: nothing FALLS", 0, () -> nobody.settles(2));
        WellQueue left = emptied();
        Check.due("29: all left", 1, () -> left.settles(0));
        Check.due("29: who is out of the QUEUE ASKS as it did", 1, () -> left.settles(11));
    }

    private static void settles() {
        WellQueue calm = Wells.of(Wells.THREE);
        Check.due("29: the first round changes nothing", 1, () -> calm.settles(0));
        WellQueue once = Wells.of("goods 2;person age 1 gold 0 asks 0 worth 0 0;"
                + "person age 1 gold 0 asks 0 worth 0 1;likes 0 1 1;");
        Check.due("29: rounds, the last one, too", 2, () -> once.settles(0));
        Check.due("29: the last one changed nothing", 1, () -> once.settles(1));
        Check.due("29: what FALLS then", 1, () -> once.settles(2));
        Check.due("29: what p0 ASKS then", 1, () -> once.settles(10));
        Check.due("29: nothing is ASKED", 0, () -> once.person(0, 1));
        WellQueue restless = Wells.of("goods 2;ring;person age 1 gold 0 asks 0 worth 1 0;"
                + "person age 1 gold 0 asks 0 worth 1 0;likes 0 1 1;likes 1 0 1;");
        Check.due("29: what is greatest is ASKED", 1, () -> restless.settles(0));
        Check.due("29: what FALLS then, not what might", 2, () -> restless.settles(2));
        WellQueue endless = Wells.of("goods 2;ring;middle;person age 0 gold 0 asks 0 worth 4 -3;"
                + "person age 0 gold 0 asks 0 worth 7 1;person age 0 gold 0 asks 1 worth -8 9;"
                + "person age 0 gold 0 asks 0 worth -7 6;likes 3 0 3;likes 1 2 6;likes 0 3 9;likes 0 2 -3;"
                + "likes 1 0 -3;likes 1 3 -7;likes 3 1 -2;likes 3 2 -6;likes 2 3 -4;");
        Check.due("29: at most 30 rounds", 30, () -> endless.settles(0));
        Check.due("29: the last one changed something", 0, () -> endless.settles(1));
        WellQueue none = Wells.of("goods 2;law place>0;person age 1 gold 0 asks 1 worth 0 0;"
                + "person age 1 gold 0 asks 0 worth 9 9;likes 0 1 9;");
        Check.due("29: who is not ALLOWED any", 1, () -> none.settles(10));
        WellQueue water = Wells.of("goods 2;law good=0;person age 1 gold 0 asks 1 worth 0 0;"
                + "person age 1 gold 0 asks 0 worth -1 9;likes 0 1 9;");
        Check.due("29: WATER is better than the only one ALLOWED", 1, () -> water.settles(10));
    }

    // ---- promise 30

    private static void plotRefused() {
        WellQueue x = Wells.of(Wells.THREE);
        for (int far : FAR) {
            Check.noSuch("30: no such one " + far, () -> x.plot(1, far, 0));
            Check.noSuch("30: told first " + far, () -> x.plot(0, far, 99));
        }
        for (int what : new int[] {Integer.MIN_VALUE, -1, 1, 9, 11, 12, Integer.MAX_VALUE}) {
            Check.badArgument("30: another what of one " + what, () -> x.plot(1, 2, what));
        }
        Check.due("30: the first of one", 0, () -> x.plot(1, 2, 10));
        Check.due("30: the second of two", 0, () -> x.plot(3, 2, 11));
        Check.badArgument("30: no third of two", () -> x.plot(3, 2, 12));
        x.leave(1);
        Check.badState("30: it isn't in the QUEUE", () -> x.plot(1, 1, 0));
        Check.badState("30: told first: it isn't in the QUEUE", () -> x.plot(0, 1, 99));
        Check.badArgument("30: one of the set isn't in the QUEUE", () -> x.plot(2, 2, 0));
        Check.badArgument("30: one of two isn't in the QUEUE", () -> x.plot(3, 2, 0));
    }

    private static void plotSets() {
        WellQueue x = many(5);
        for (int set : new int[] {0, 32, 33, 256, Integer.MIN_VALUE, Integer.MIN_VALUE + 1, Integer.MAX_VALUE, -1}) {
            Check.badArgument("30: no such set " + set, () -> x.plot(set, 4, 0));
        }
        Check.badArgument("30: it has that one", () -> x.plot(16, 4, 0));
        Check.badArgument("30: it has that one, too", () -> x.plot(17, 4, 0));
        Check.badArgument("30: a set of 4", () -> x.plot(15, 4, 0));
        Check.due("30: a set of 3", 1, () -> x.plot(14, 4, 0));
        Check.due("30: the third of three", 0, () -> x.plot(14, 4, 12));
        Check.badArgument("30: no fourth of three", () -> x.plot(14, 4, 13));
        Check.due("30: a set of 1", 1, () -> x.plot(8, 4, 0));
        Check.due("30: against the first one", 0, () -> x.plot(8, 0, 0));
        WellQueue eight = many(8);
        Check.due("30: the last three", 0, () -> eight.plot(224, 0, 12));
        Check.badArgument("30: no ninth", () -> eight.plot(256, 0, 0));
    }

    private static void plotOfLike() {
        String person = "person age 1 gold 0 asks 2 worth 5 0 0;";
        WellQueue x = Wells.of("goods 3;middle;" + person.repeat(4));
        // two 0s of the three bring a 0, which is worth 5; 0 1 1 is the first without
        Check.due("30: least FALLS", 0, () -> x.plot(7, 3, 0));
        Check.due("30: of like ones the first by PEOPLE: p0", 0, () -> x.plot(7, 3, 10));
        Check.due("30: of like ones the first by PEOPLE: p1", 1, () -> x.plot(7, 3, 11));
        Check.due("30: of like ones the first by GOODS: p2", 1, () -> x.plot(7, 3, 12));
        x.move(2, 0);
        Check.due("30: by PEOPLE, not by places: p0", 0, () -> x.plot(7, 3, 10));
        Check.due("30: by PEOPLE, not by places: p2", 1, () -> x.plot(7, 3, 12));
        WellQueue none = Wells.of("goods 2;law age=1;person age 0 gold 0 asks 1 worth 0 0;"
                + "person age 1 gold 0 asks 0 worth -5 -9;");
        Check.due("30: one that is not ALLOWED any: WATER as now", 0, () -> none.plot(1, 1, 0));
        Check.due("30: it ASKS as now", 1, () -> none.plot(1, 1, 10));
        WellQueue mixed = Wells.of("goods 2;law age=1;person age 0 gold 0 asks 1 worth 0 0;"
                + "person age 1 gold 0 asks 0 worth 0 0;person age 1 gold 0 asks 0 worth 5 -9;");
        Check.due("30: the others ASK what they may", -9, () -> mixed.plot(3, 2, 0));
        Check.due("30: p0 as now", 1, () -> mixed.plot(3, 2, 10));
        Check.due("30: p1 what it may", 1, () -> mixed.plot(3, 2, 11));
        WellQueue water = Wells.of("goods 2;law good=0;person age 0 gold 0 asks 1 worth 0 0;"
                + "person age 1 gold 0 asks 0 worth 5 9;");
        Check.due("30: who may ASK must: no WATER", 5, () -> water.plot(1, 1, 0));
        Check.due("30: the only one ALLOWED", 0, () -> water.plot(1, 1, 10));
        WellQueue below = Wells.of("goods 2;person age 0 gold 0 asks 1 worth 0 0;person age 1 gold 0 asks 0 worth 5 9;");
        Check.due("30: the least may be above 0", 5, () -> below.plot(1, 1, 0));
    }

    // ---- promise 31

    private static void promiseSets() {
        WellQueue x = Wells.of(Wells.THREE);
        for (int set : new int[] {0, 1, 2, 4, 8, 9, 15, 256, Integer.MIN_VALUE, Integer.MIN_VALUE + 3, -1,
            Integer.MAX_VALUE}) {
            Check.badArgument("31: no such set " + set, () -> x.promise(set, 0));
        }
        for (int what : new int[] {Integer.MIN_VALUE, -1, 3, 10, Integer.MAX_VALUE}) {
            Check.badArgument("31: another what " + what, () -> x.promise(3, what));
        }
        Check.due("31: a set of 2", 1, () -> x.promise(6, 0));
        Check.due("31: a set of all 3", 1, () -> x.promise(7, 0));
        x.leave(0);
        Check.badArgument("31: one isn't in the QUEUE", () -> x.promise(7, 0));
        Check.due("31: those who are", 1, () -> x.promise(6, 0));
        WellQueue eight = many(8);
        Check.due("31: a set of 8", 1, () -> eight.promise(255, 0));
        Check.badArgument("31: no ninth", () -> eight.promise(257, 0));
        WellQueue nobody = new WellQueue();
        Check.badArgument("31: nobody", () -> nobody.promise(3, 0));
    }

    private static void promise() {
        WellQueue same = many(3);
        Check.due("31: to none of it less FALLS: it HOLDS", 1, () -> same.promise(7, 0));
        Check.due("31: no more", 0, () -> same.promise(7, 1));
        Check.due("31: by nobody", -1, () -> same.promise(7, 2));
        // round a ring of three p1 gets what p0 ASKS: 0 is kind to it, p2 likes 1 by p1, p0 gets -1 of p2 either way
        WellQueue ring = Wells.of("goods 2;ring;person age 1 gold 0 asks 1 worth -1 -1;"
                + "person age 1 gold 0 asks 0 worth 4 1;person age 1 gold 0 asks 0 worth 0 6;likes 0 1 -1;likes 1 2 -1;");
        Check.due("31: by how much more to p0, p1", 3, () -> ring.promise(3, 1));
        Check.due("31: to all three", 9, () -> ring.promise(7, 1));
        Check.due("31: the first of it breaks it", 0, () -> ring.promise(7, 2));
        Check.due("31: p0 is none of it", 1, () -> ring.promise(6, 2));
        Check.due("31: p2 and p0: p0", 0, () -> ring.promise(5, 2));
        Check.due("31: no DEED", 0, () -> ring.count(10));
        // by the middle of three: each alone brings no 1, all of them do; to p2 that is less
        WellQueue less = Wells.of("goods 2;ring;middle;person age 1 gold 0 asks 0 worth 0 4;"
                + "person age 1 gold 0 asks 1 worth 3 2;person age 1 gold 0 asks 0 worth 0 9;");
        Check.due("31: to one of it less FALLS", 0, () -> less.promise(7, 0));
        Check.due("31: to p0 and p2 more", 1, () -> less.promise(5, 0));
        WellQueue none = Wells.of(Wells.THREE + "law 1=0;");
        Check.due("31: none is ALLOWED any: it HOLDS", 1, () -> none.promise(7, 0));
        Check.due("31: none is ALLOWED any: by nobody", -1, () -> none.promise(7, 2));
    }

    // ---- promise 32

    private static void guard() {
        WellQueue x = Wells.of(Wells.THREE);
        for (int far : FAR) {
            Check.noSuch("32: no PERSON " + far, () -> x.guard(far, 0));
            Check.noSuch("32: told first " + far, () -> x.guard(far, 2));
        }
        for (int what : new int[] {Integer.MIN_VALUE, -1, 2, Integer.MAX_VALUE}) {
            Check.badArgument("32: another what " + what, () -> x.guard(0, what));
        }
        x.leave(1);
        Check.badState("32: it isn't in the QUEUE", () -> x.guard(1, 0));
        Check.badState("32: told first: it isn't in the QUEUE", () -> x.guard(1, 2));
        x.leave(2);
        Check.due("32: NONE, nobody else is in the QUEUE", -1, () -> x.guard(0, 0));
        Check.due("32: 0, nobody else is in the QUEUE", 0, () -> x.guard(0, 1));
        x.ring();
        Check.due("32: 0, nor round a ring", 0, () -> x.guard(0, 1));
        Check.badArgument("32: another what, nobody else", () -> x.guard(0, 2));
    }

    private static void guardAhead() {
        WellQueue x = Wells.of(Wells.THREE);
        Check.due("32: of the first one", 2, () -> x.guard(0, 0));
        Check.due("32: to the first one", 5, () -> x.guard(0, 1));
        Check.due("32: who stands there is as it is now", 1, () -> x.guard(2, 0));
        Check.due("32: what FALLS as now", 1, () -> x.guard(2, 1));
        WellQueue like = many(4);
        Check.due("32: of like ones the first", 0, () -> like.guard(3, 0));
        Check.due("32: of like ones the first but itself", 1, () -> like.guard(0, 0));
        like.move(3, 0);
        Check.due("32: the first PERSON", 0, () -> like.guard(2, 0));
        WellQueue below = Wells.of("goods 2;person age 1 gold 0 asks 0 worth 0 0;person age 1 gold 0 asks 1 worth -5 -3;"
                + "person age 1 gold 0 asks 1 worth 0 0;");
        Check.due("32: the most is below 0: who", 2, () -> below.guard(1, 0));
        Check.due("32: the most is below 0", -3, () -> below.guard(1, 1));
        Check.due("32: nobody MOVES", 0, () -> below.at(0));
        Check.due("32: no DEED", 0, () -> below.count(10));
    }

    // ---- promises 33 and 34

    private static void price() {
        WellQueue x = Wells.of(Wells.THREE);
        for (int far : FAR) {
            Check.noSuch("33: no PERSON " + far, () -> x.price(far, 0));
            Check.noSuch("33: told first " + far, () -> x.price(far, 3));
            Check.badArgument("33: no such place " + far, () -> x.price(0, far));
        }
        for (int p = 0; p < 3; p++) {
            int q = p;
            Check.due("33: its own place", 0, () -> x.price(q, q));
        }
        Check.due("33: the last place", 5, () -> x.price(0, 2));
        Check.due("33: the first place", -1, () -> x.price(2, 0));
        x.leave(1);
        Check.badArgument("33: a place that was", () -> x.price(0, 2));
        Check.badState("33: it isn't in the QUEUE", () -> x.price(1, 0));
        Check.badState("33: told first: it isn't in the QUEUE", () -> x.price(1, 3));
        x.leave(2);
        Check.due("33: one alone", 0, () -> x.price(0, 0));
        Check.badArgument("33: no second place", () -> x.price(0, 1));
    }

    private static void bestPlace() {
        WellQueue x = Wells.of(Wells.THREE);
        for (int far : FAR) {
            Check.noSuch("34: no PERSON " + far, () -> x.bestPlace(far));
        }
        Check.due("34: the last place", 2, () -> x.bestPlace(0));
        x.leave(1);
        Check.badState("34: it isn't in the QUEUE", () -> x.bestPlace(1));
        x.leave(0);
        Check.due("34: one alone", 0, () -> x.bestPlace(2));
        WellQueue none = Wells.of("goods 1;law 1=0;" + PLAIN.repeat(8));
        Check.due("34: all alike: the first", 0, () -> none.bestPlace(7));
        WellQueue like = many(8);
        Check.due("34: the first of like ones", 1, () -> like.bestPlace(7));
        WellQueue worst = Wells.of("goods 1;" + "person age 1 gold 0 asks 0 worth -1;".repeat(3));
        Check.due("34: the first place", 0, () -> worst.bestPlace(2));
        Check.due("34: it stands there", 0, () -> worst.bestPlace(0));
    }

    // ---- promises 35 and 36

    private static void worthOfRefused() {
        WellQueue seven = many(7);
        for (int set : new int[] {0, 1, 127, 128, -1}) {
            Check.badState("35: more than 6 are in the QUEUE, set " + set, () -> seven.worthOf(set));
        }
        Check.badState("36: more than 6 are in the QUEUE", () -> seven.share(0));
        Check.noSuch("36: no PERSON, told first", () -> seven.share(7));
        seven.leave(6);
        Check.due("35: 6 are in the QUEUE", 5, () -> seven.worthOf(63));
        for (int set : new int[] {64, 65, 127, 128, 256, Integer.MIN_VALUE, -1, Integer.MAX_VALUE}) {
            Check.badArgument("35: it has others, set " + set, () -> seven.worthOf(set));
        }
        Check.badState("36: it isn't in the QUEUE", () -> seven.share(6));
        seven.join(6);
        seven.leave(0);
        Check.due("35: the last 6", 5, () -> seven.worthOf(126));
        WellQueue nobody = new WellQueue();
        Check.due("35: no set of nobody", 0, () -> nobody.worthOf(0));
        Check.badArgument("35: one of nobody", () -> nobody.worthOf(1));
        Check.badArgument("35: all of nobody", () -> nobody.worthOf(-1));
    }

    private static void worthOf() {
        WellQueue x = Wells.of(Wells.THREE + "apart 0 2;apart 0 1;apart 1 2;ring;night;");
        x.days(1);
        Check.due("35: nobody", 0, () -> x.worthOf(0));
        for (int set : new int[] {1, 2, 4}) {
            Check.due("35: one alone, without ring and night", 0, () -> x.worthOf(set));
        }
        Check.due("35: apart or not", 5, () -> x.worthOf(5));
        Check.due("35: all of it, apart or not", 7, () -> x.worthOf(7));
        WellQueue below = Wells.of("goods 1;person age 1 gold 0 asks 0 worth -3;person age 1 gold 0 asks 0 worth -5;");
        Check.due("35: at most may be below 0", -3, () -> below.worthOf(3));
        WellQueue law = Wells.of(Wells.THREE + "law place=1;");
        Check.due("35: ASKED as ALLOWED now: p1 alone", 1, () -> law.worthOf(6));
        Check.due("35: ASKED as ALLOWED now: neither", 0, () -> law.worthOf(5));
        WellQueue first = Wells.of("goods 2;person age 1 gold 0 asks 1 worth 0 0;person age 1 gold 0 asks 0 worth 3 8;");
        Check.due("35: what the first one ASKS", 8, () -> first.worthOf(3));
        first.ask(0, 0);
        Check.due("35: what it ASKS then", 3, () -> first.worthOf(3));
        WellQueue two = Wells.of(Wells.THREE + "behind 2;");
        Check.due("35: two of them, behind 2", 0, () -> two.worthOf(5));
        WellQueue middle = Wells.of(Wells.THREE + "middle;");
        Check.due("35: three of them, middle", 0, () -> middle.worthOf(7));
    }

    private static void share() {
        WellQueue x = Wells.of(Wells.THREE + "ring;");
        for (int far : FAR) {
            Check.noSuch("36: no PERSON " + far, () -> x.share(far));
        }
        x.leave(1);
        Check.badState("36: it isn't in the QUEUE", () -> x.share(1));
        Check.due("36: two: 5 more if it comes behind", 5, () -> x.share(0));
        x.leave(0);
        Check.due("36: one alone", 0, () -> x.share(2));
        StringBuilder text = new StringBuilder("goods 2;");
        for (int p = 0; p < 8; p++) {
            text.append("person age 1 gold 0 asks ").append(p % 2).append(" worth ").append(p).append(" -")
                    .append(7 - p).append(";");
        }
        WellQueue six = Wells.of(text.toString());
        six.leave(2);
        Check.badState("36: 7 are in the QUEUE", () -> six.share(7));
        Check.badState("36: 7 are, and it isn't", () -> six.share(2));
        six.leave(5);
        Check.due("36: all SHARES of 6 make 720 times the worth of all", 720L * six.worthOf(219), () -> six.share(0)
                + six.share(1) + six.share(3) + six.share(4) + six.share(6) + six.share(7));
    }
}
