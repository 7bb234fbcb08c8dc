/** A call that throws changes nothing, and a call that only asks changes nothing: two like objects stay alike. */
final class UnchangedTest {
    private UnchangedTest() {
    }

    private interface Call {
        void make(WellQueue x);
    }

    public static void main(String[] args) {
        throwing();
        throwingOfFew();
        asking();
        refusedWithoutThrowing();
        Check.end();
    }

    /** With DEEDS, IMAGES, TRAYS, a tape and a FAULT; p3 is out of the QUEUE, IMAGE 2 and TRAY 3 are not made. */
    private static WellQueue rich() {
        WellQueue x = Wells.of("goods 2;night;ruin 30;person age 30 gold 10 asks 0 worth 5 -3;"
                + "person age 40 gold 4 asks 1 worth 2 7;person age 50 gold 0 asks 0 worth -4 1;"
                + "person age 20 gold 7 asks 1 worth 3 -2;likes 0 1 2;likes 1 2 -1;apart 0 3;law good=0 or place<3;");
        x.image(0);
        x.days(2);
        x.ask(2, 1);
        x.image(1);
        x.leave(3);
        x.move(2, 0);
        Wells.fill(x, 0, 1, -1, 112);
        x.tray(1, 0, 3);
        x.pour(1);
        Wells.fill(x, 2, 2, 3, 1, 5, 5);
        Wells.tell(x, "goods 1");
        Wells.feed(x, "goods 1;ring");
        return x;
    }

    private static void same(String name, WellQueue x) {
        Check.same(name + " changed something", Looks.whole(rich()), Looks.whole(x));
    }

    private static void refused(String name, Class<? extends RuntimeException> want, Call call) {
        WellQueue x = rich();
        Check.refused(name, want, () -> call.make(x));
        same(name, x);
    }

    private static void noSuch(String name, Call call) {
        refused(name, java.util.NoSuchElementException.class, call);
    }

    private static void badState(String name, Call call) {
        refused(name, IllegalStateException.class, call);
    }

    private static void badArgument(String name, Call call) {
        refused(name, IllegalArgumentException.class, call);
    }

    private static void throwing() {
        badArgument("well below 0", x -> x.well(-1));
        badArgument("well above", x -> x.well(21));
        noSuch("person", x -> x.person(4, 0));
        badArgument("person what", x -> x.person(0, 7));
        noSuch("worth", x -> x.worth(0, 2));
        noSuch("likes", x -> x.likes(0, 4));
        badArgument("likes of one", x -> x.likes(0, 0));
        noSuch("at", x -> x.at(3));
        noSuch("allowed", x -> x.allowed(0, 2));
        badState("allowed of p3", x -> x.allowed(3, 0));
        noSuch("liking", x -> x.liking(4));
        badState("liking of p3", x -> x.liking(3));
        noSuch("ask", x -> x.ask(0, 2));
        badState("ask of p3", x -> x.ask(3, 0));
        badArgument("days 0", x -> x.days(0));
        badArgument("days 61", x -> x.days(61));
        noSuch("leave", x -> x.leave(4));
        badState("leave of p3", x -> x.leave(3));
        noSuch("join", x -> x.join(4));
        badState("join of p0", x -> x.join(0));
        noSuch("move", x -> x.move(4, 0));
        badState("move of p3", x -> x.move(3, 0));
        badArgument("move to 3", x -> x.move(0, 3));
        badArgument("trade at 2", x -> x.trade(2));
        noSuch("auction", x -> x.auction(0, 4));
        badState("auction by TRAY 3", x -> x.auction(0, 3));
        badArgument("auction of 3", x -> x.auction(3, 2));
        badArgument("undo 0", x -> x.undo(0));
        badArgument("undo 5", x -> x.undo(5));
        badArgument("undo 13", x -> x.undo(13));
        noSuch("judge", x -> x.judge(4, 0));
        badState("judge of TRAY 3", x -> x.judge(3, 0));
        badArgument("judge what", x -> x.judge(0, 4));
        noSuch("perform", x -> x.perform(4));
        badState("perform of TRAY 3", x -> x.perform(3));
        badArgument("season 0", x -> x.season(1, 0));
        badArgument("season 31", x -> x.season(1, 31));
        badArgument("best", x -> x.best(18));
        noSuch("kindest", x -> x.kindest(4, true));
        badState("kindest of p3", x -> x.kindest(3, false));
        badArgument("settles", x -> x.settles(14));
        noSuch("plot", x -> x.plot(1, 4, 0));
        badState("plot against p3", x -> x.plot(1, 3, 0));
        badArgument("plot by p3", x -> x.plot(8, 0, 0));
        badArgument("plot what", x -> x.plot(2, 0, 11));
        badArgument("promise by p3", x -> x.promise(9, 0));
        badArgument("promise what", x -> x.promise(3, 3));
        noSuch("guard", x -> x.guard(4, 0));
        badState("guard of p3", x -> x.guard(3, 0));
        badArgument("guard what", x -> x.guard(0, 2));
        noSuch("price", x -> x.price(4, 0));
        badState("price for p3", x -> x.price(3, 0));
        badArgument("price of 3", x -> x.price(0, 3));
        noSuch("bestPlace", x -> x.bestPlace(4));
        badState("bestPlace of p3", x -> x.bestPlace(3));
        badArgument("worthOf", x -> x.worthOf(8));
        noSuch("share", x -> x.share(4));
        badState("share of p3", x -> x.share(3));
        noSuch("ruined", x -> x.ruined(4));
        badState("ruined of p3", x -> x.ruined(3));
        badArgument("by", x -> x.by(4));
        noSuch("secrets", x -> x.secrets(4));
        badState("secrets of TRAY 3", x -> x.secrets(3));
        badArgument("secrets of TRAY 2", x -> x.secrets(2));
        noSuch("sure", x -> x.sure(4, 0));
        badState("sure of TRAY 3", x -> x.sure(3, 0));
        badArgument("sure at 3", x -> x.sure(1, 3));
        noSuch("tray", x -> x.tray(4, 0, 1));
        badArgument("tray sort", x -> x.tray(0, 4, 1));
        badArgument("tray of 31", x -> x.tray(0, 0, 31));
        badArgument("TRAY 3 of 31", x -> x.tray(3, 0, 31));
        noSuch("write", x -> x.write(4, 0, 1));
        badState("write to TRAY 3", x -> x.write(3, 0, 1));
        refused("write at 3", IndexOutOfBoundsException.class, x -> x.write(0, 3, 1));
        noSuch("pour", x -> x.pour(4));
        badState("pour to TRAY 3", x -> x.pour(3));
        noSuch("image", x -> x.image(3));
        noSuch("restore", x -> x.restore(3));
        badState("restore of 2", x -> x.restore(2));
    }

    /** What only few or many PEOPLE let a call throw. */
    private static void throwingOfFew() {
        WellQueue none = new WellQueue();
        String before = Looks.at(none);
        Check.badState("season of nobody", () -> none.season(1, 30));
        Check.badState("standBest of nobody", none::standBest);
        Check.same("of nobody", before, Looks.at(none));
        WellQueue seven = Wells.of("goods 1;" + "person age 1 gold 0 asks 0 worth 1;".repeat(7));
        String then = Looks.at(seven);
        Check.badState("share of seven", () -> seven.share(0));
        Check.badState("worthOf of seven", () -> seven.worthOf(1));
        Check.same("of seven", then, Looks.at(seven));
        WellQueue apart = Wells.of(Wells.THREE + "apart 0 1;apart 1 2;apart 0 2;");
        String stood = Looks.at(apart);
        Check.badState("standBest without an ORDER", apart::standBest);
        Check.same("without an ORDER", stood, Looks.at(apart));
    }

    private static void asks(String name, Call call) {
        WellQueue x = rich();
        call.make(x);
        same(name, x);
    }

    private static void asking() {
        asks("fault", x -> x.fault(0));
        asks("person", x -> x.person(0, 5));
        asks("worth", x -> x.worth(0, 1));
        asks("likes", x -> x.likes(0, 1));
        asks("at", x -> x.at(0));
        asks("allowed", x -> x.allowed(0, 1));
        asks("today", WellQueue::today);
        asks("liking", x -> x.liking(0));
        asks("judge", x -> x.judge(0, 2));
        asks("best", x -> x.best(0));
        asks("orders", x -> x.orders(3));
        asks("kindest", x -> x.kindest(0, true));
        asks("cruellest", x -> x.kindest(1, false));
        asks("settles", x -> x.settles(2));
        asks("plot", x -> x.plot(3, 2, 0));
        asks("promise holds", x -> x.promise(7, 0));
        asks("promise more", x -> x.promise(7, 1));
        asks("promise broken", x -> x.promise(7, 2));
        asks("guard", x -> x.guard(2, 0));
        asks("price", x -> x.price(2, 0));
        asks("bestPlace", x -> x.bestPlace(1));
        asks("worthOf", x -> x.worthOf(7));
        asks("share", x -> x.share(1));
        asks("ruined", x -> x.ruined(1));
        asks("firstRuined", WellQueue::firstRuined);
        asks("by", x -> x.by(2));
        asks("bestWay", WellQueue::bestWay);
        asks("secrets", x -> x.secrets(1));
        asks("sure", x -> x.sure(1, 1));
        asks("count", x -> x.count(4));
    }

    private static void refusedWithoutThrowing() {
        asks("an auction without bids", x -> {
            for (int k = 0; k < 3; k++) {
                x.write(0, k, 0);
            }
            Check.due("no bid counts", -1, () -> x.auction(0, 0));
            x.write(0, 0, 1);
            x.write(0, 1, -1);
            x.write(0, 2, 112);
        });
        asks("a trade that is none", x -> Check.due("no TRADE", 0, () -> x.trade(0)));
        asks("an undone deed", x -> {
            x.ring();
            x.undo(1);
        });
        asks("undone deeds", x -> {
            x.ask(0, 1);
            x.days(7);
            x.leave(1);
            x.undo(3);
        });
        asks("told deeds that can't be", x -> {
            x.write(2, 0, 99);
            Check.due("none is made", 0, () -> x.perform(2));
            x.write(2, 0, 2);
        });
        WellQueue full = new WellQueue();
        Wells.feed(full, "goods 2;" + " ".repeat(892));
        String before = Looks.at(full);
        Check.due("no more fits on the tape", -1, () -> full.feed(1, 2, 3, 4, 5));
        Check.same("a full tape", before, Looks.at(full));
        Check.due("its bytes", 1, () -> full.well(900));
        WellQueue calm = Wells.of(Wells.THREE);
        String stood = Looks.at(calm);
        Check.due("trades that are none", 0, calm::trades);
        Check.same("trades that are none", stood, Looks.at(calm));
    }
}
