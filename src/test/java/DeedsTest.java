import java.util.NoSuchElementException;

/** Promises 12 to 24: what is done, undone, judged and drawn. */
final class DeedsTest {
    private DeedsTest() {
    }

    public static void main(String[] args) {
        ask();
        days();
        leaveAndJoin();
        move();
        trade();
        trades();
        auction();
        ring();
        undo();
        judge();
        perform();
        season();
        Check.end();
    }

    private static void ask() {
        WellQueue x = Wells.of(Wells.THREE + "law good=0;");
        Check.due("ask(0, 1)", 0, () -> x.ask(0, 1));
        Check.due("it asks", 1, () -> x.person(0, 1));
        Check.due("ask(1, 0)", 1, () -> x.ask(1, 0));
        Check.due("two deeds", 2, () -> x.count(10));
        x.leave(2);
        Check.refused("ask(2, 0)", IllegalStateException.class, () -> x.ask(2, 0));
        Check.refused("ask(2, 2)", NoSuchElementException.class, () -> x.ask(2, 2));
        Check.refused("ask(3, 0)", NoSuchElementException.class, () -> x.ask(3, 0));
        Check.due("throws are no deeds", 3, () -> x.count(10));
        x.undo(3);
        Check.due("undone", 1, () -> x.person(1, 1));
    }

    private static void days() {
        WellQueue x = Wells.of(Wells.THREE);
        Check.due("days(2)", 6, () -> x.days(2));
        Check.due("day", 2, () -> x.count(4));
        Check.due("total", 2, () -> x.person(2, 4));
        Check.due("one deed", 1, () -> x.count(10));
        Check.due("days(60)", 180, () -> x.days(60));
        Check.refused("days(0)", IllegalArgumentException.class, () -> x.days(0));
        Check.refused("days(61)", IllegalArgumentException.class, () -> x.days(61));
        WellQueue y = Wells.of(Wells.THREE + "ruin 8;");
        y.ask(1, 0);
        y.days(1);
        Check.due("-4 stays", 3, () -> y.count(3));
        Check.due("then what falls", -2, () -> y.days(1));
        Check.due("-8 is ruined", 2, () -> y.count(3));
        Check.due("its total stays", -8, () -> y.person(2, 4));
        y.join(2);
        Check.due("it falls again", -2, () -> y.days(1));
        Check.due("it is ruined again", -1, () -> y.person(2, 0));
    }

    private static void leaveAndJoin() {
        WellQueue x = Wells.of(Wells.THREE);
        Check.due("leave(0)", 2, () -> x.leave(0));
        Check.due("those behind close up", 1, () -> x.at(0));
        Check.refused("leave(0)", IllegalStateException.class, () -> x.leave(0));
        Check.refused("leave(3)", NoSuchElementException.class, () -> x.leave(3));
        Check.refused("join(1)", IllegalStateException.class, () -> x.join(1));
        Check.refused("join(-1)", NoSuchElementException.class, () -> x.join(-1));
        Check.due("join(0)", 2, () -> x.join(0));
        Check.due("behind the last", 0, () -> x.at(2));
        x.undo(2);
        Check.due("undone", 0, () -> x.at(0));
    }

    private static void move() {
        WellQueue x = Wells.of(Wells.THREE);
        Check.due("move(0, 2): p2 is ahead", 5, () -> x.move(0, 2));
        Check.due("those between shift", 1, () -> x.at(0));
        Check.due("all of them", 2, () -> x.at(1));
        Check.due("move(0, 0)", 0, () -> x.move(0, 0));
        Check.due("and back", 1, () -> x.at(1));
        Check.due("move(1, 1)", 2, () -> x.move(1, 1));
        Check.due("each is a deed", 3, () -> x.count(10));
        Check.refused("move(0, 3)", IllegalArgumentException.class, () -> x.move(0, 3));
        Check.refused("move(0, -1)", IllegalArgumentException.class, () -> x.move(0, -1));
        x.leave(0);
        Check.refused("move(0, 9)", IllegalStateException.class, () -> x.move(0, 9));
        Check.refused("move(3, 9)", NoSuchElementException.class, () -> x.move(3, 9));
    }

    private static WellQueue pair(int gold, int worth) {
        return Wells.of("goods 1;person age 1 gold " + gold + " asks 0 worth " + worth
                + ";person age 1 gold 0 asks 0 worth -4;");
    }

    private static void trade() {
        WellQueue x = pair(5, 9);
        Check.due("9 and 4 are gained", 13, () -> x.trade(0));
        Check.due("they changed places", 1, () -> x.at(0));
        Check.due("half of 5 is paid, cut", 3, () -> x.person(0, 3));
        Check.due("to the other one", 2, () -> x.person(1, 3));
        Check.due("there is none back", 0, () -> x.trade(0));
        Check.due("that is no deed", 1, () -> x.count(10));
        x.undo(1);
        Check.due("undone", 5, () -> x.person(0, 3));
        WellQueue poor = pair(1, 9);
        Check.due("it has less gold", 0, () -> poor.trade(0));
        Check.due("they stay", 0, () -> poor.at(0));
        Check.due("no deed", 0, () -> poor.count(10));
        WellQueue just = pair(2, 9);
        Check.due("it has just as much", 13, () -> just.trade(0));
        WellQueue second = Wells.of("goods 1;person age 1 gold 0 asks 0 worth 0;person age 1 gold 3 asks 0 worth -7;");
        Check.due("the second one gains", 7, () -> second.trade(0));
        Check.due("and pays", 3, () -> second.person(0, 3));
        WellQueue even = Wells.of("goods 1;person age 1 gold 0 asks 0 worth 3;person age 1 gold 0 asks 0 worth 3;");
        Check.due("no more falls", 0, () -> even.trade(0));
        Check.refused("trade(1)", IllegalArgumentException.class, () -> x.trade(1));
        Check.refused("trade(-1)", IllegalArgumentException.class, () -> x.trade(-1));
        Check.refused("trade(2147483647)", IllegalArgumentException.class, () -> x.trade(Integer.MAX_VALUE));
    }

    private static void trades() {
        StringBuilder text = new StringBuilder("goods 1;");
        for (int p = 0; p < 4; p++) {
            text.append("person age 1 gold 99 asks 0 worth ").append(p == 0 ? "9" : "1").append(";");
        }
        WellQueue x = Wells.of(text.toString());
        Check.due("the first one goes behind the first who stands there", 1, x::trades);
        Check.due("at(0)", 1, () -> x.at(0));
        Check.due("it pays half of 9 less -1", 94, () -> x.person(0, 3));
        Check.due("none is left", 0, x::trades);
        WellQueue y = Wells.of("goods 1;behind 2;" + text.substring(8));
        Check.due("it must go two places", 0, y::trades);
        // 0 1 2: 0 9 0; at place 0 none, at place 1: 0 2 1 makes 20 0; then none at place 0, none at place 1
        WellQueue z = Wells.of("goods 2;person age 1 gold 99 asks 0 worth 1 0;person age 1 gold 99 asks 1 worth 9 0;"
                + "person age 1 gold 99 asks 1 worth 20 0;");
        Check.due("one at the second place", 1, z::trades);
        Check.due("p2 stands behind the giver then", 2, () -> z.at(1));
        Check.due("half of 20 and 9 is paid", 85, () -> z.person(2, 3));
        Check.due("to p1", 113, () -> z.person(1, 3));
        Check.due("each is a deed", 1, () -> z.count(10));
        WellQueue endless = Wells.of("goods 2;ring;behind 2;person age 0 gold 99 asks 1 worth 0 0;"
                + "person age 0 gold 99 asks 0 worth -5 -2;person age 0 gold 99 asks 1 worth -2 5;"
                + "person age 0 gold 99 asks 0 worth -1 -1;");
        Check.due("50 at most", 50, endless::trades);
        Check.due("12 of them can be undone", 12, () -> endless.count(10));
    }

    private static void auction() {
        String four = "goods 1;person age 30 gold 10 asks 0 worth 0;person age 40 gold 10 asks 0 worth 0;"
                + "person age 40 gold 10 asks 0 worth 0;person age 20 gold 10 asks 0 worth 0;";
        WellQueue x = Wells.of(four);
        Wells.fill(x, 0, 7, 7, 7, 3);
        Check.due("the greater age, then the first", 1, () -> x.auction(3, 0));
        Check.due("it stands there", 1, () -> x.at(3));
        Check.due("it pays the second highest, a like one", 3, () -> x.person(1, 3));
        Check.due("to who stood there", 17, () -> x.person(3, 3));
        Check.due("a deed", 1, () -> x.count(10));
        Wells.fill(x, 0, 0, 4, 11, -1, 50, 50);
        Check.due("no bid counts", -1, () -> x.auction(0, 0));
        Check.due("no deed", 1, () -> x.count(10));
        Wells.fill(x, 0, 0, 0, 10);
        Check.due("one's whole gold", 2, () -> x.auction(0, 0));
        Check.due("0 without a second", 10, () -> x.person(2, 3));
        Check.due("at(0)", 2, () -> x.at(0));
        Wells.fill(x, 0, 9, 0, 10);
        Check.due("it stands there itself", 2, () -> x.auction(0, 0));
        Check.due("it pays nothing", 10, () -> x.person(2, 3));
        Check.due("a deed, too", 3, () -> x.count(10));
        x.leave(2);
        Check.due("who is out of the queue doesn't count", 0, () -> x.auction(2, 0));
        x.undo(5);
        Check.due("undone", 10, () -> x.person(1, 3));
        Check.refused("auction(4, 0)", IllegalArgumentException.class, () -> x.auction(4, 0));
        Check.refused("auction(-1, 0)", IllegalArgumentException.class, () -> x.auction(-1, 0));
        Check.refused("auction(9, 1)", IllegalStateException.class, () -> x.auction(9, 1));
        Check.refused("auction(9, 4)", NoSuchElementException.class, () -> x.auction(9, 4));
        Wells.fill(x, 1, Long.MAX_VALUE, 4294967297L, 2);
        Check.due("great bids are above one's gold", 2, () -> x.auction(0, 1));
    }

    private static void ring() {
        WellQueue x = Wells.of(Wells.THREE);
        Check.due("ring()", 1, x::ring);
        Check.due("count(6)", 1, () -> x.count(6));
        Check.due("ring()", 0, x::ring);
        Check.due("count(6)", 0, () -> x.count(6));
        x.undo(1);
        Check.due("undone", 1, () -> x.count(6));
        WellQueue y = Wells.of("goods 1;ring;");
        Check.due("told, it is turned off", 0, y::ring);
    }

    private static void undo() {
        WellQueue x = Wells.of(Wells.THREE + "night;");
        for (int i = 0; i < 15; i++) {
            x.days(1);
        }
        Check.due("12 at most", 12, () -> x.count(10));
        Check.refused("undo(0)", IllegalArgumentException.class, () -> x.undo(0));
        Check.refused("undo(13)", IllegalArgumentException.class, () -> x.undo(13));
        Check.due("undo(5)", 7, () -> x.undo(5));
        Check.due("the latest first", 10, () -> x.count(4));
        Check.refused("undo(8)", IllegalArgumentException.class, () -> x.undo(8));
        Check.due("undo(7)", 0, () -> x.undo(7));
        Check.due("the eldest are forgotten", 3, () -> x.count(4));
        Check.refused("undo(1)", IllegalArgumentException.class, () -> x.undo(1));
        WellQueue y = Wells.of(Wells.THREE + "night;");
        y.days(1);
        Check.due("the night is undone", 3, () -> {
            y.undo(1);
            return y.today();
        });
    }

    private static void judge() {
        WellQueue x = Wells.of(Wells.THREE + "ruin 4;");
        Wells.fill(x, 0, 10, -1, 120, 1);
        Check.due("what isn't in the queue: 0", 2, () -> x.judge(0, 0));
        Check.due("what isn't in the queue: 1", 2, () -> x.judge(0, 1));
        Check.due("what fell", -2, () -> x.judge(0, 2));
        Check.due("in the queue then", 2, () -> x.judge(0, 3));
        Check.due("nothing is made", 3, () -> x.count(3));
        Check.due("no deed", 0, () -> x.count(10));
        for (long none : new long[] {30, 2, 103, 130, -2, 200, 80, 190, Long.MIN_VALUE, 4294967296L}) {
            Wells.fill(x, 0, -1, none);
            Check.due(none + " can't be", 1, () -> x.judge(0, 0));
            Check.due(none + ": why", 1, () -> x.judge(0, 1));
            Check.due(none + ": what fell ahead of it", 3, () -> x.judge(0, 2));
        }
        Wells.fill(x, 0, 102, 1, -1, -1);
        Check.due("all can be", -1, () -> x.judge(0, 0));
        Check.due("no why", 0, () -> x.judge(0, 1));
        x.leave(1);
        Wells.fill(x, 0, 112);
        Check.due("no such place goes first", 1, () -> x.judge(0, 1));
        Wells.fill(x, 0, 111);
        Check.due("it isn't in the queue", 2, () -> x.judge(0, 1));
        x.tray(0, 0, 0);
        Check.due("no told deeds", -1, () -> x.judge(0, 0));
        Check.refused("judge(0, 4)", IllegalArgumentException.class, () -> x.judge(0, 4));
        Check.refused("judge(0, -1)", IllegalArgumentException.class, () -> x.judge(0, -1));
        Check.refused("judge(1, 4)", IllegalStateException.class, () -> x.judge(1, 4));
        Check.refused("judge(-1, 4)", NoSuchElementException.class, () -> x.judge(-1, 4));
    }

    private static void perform() {
        WellQueue x = Wells.of(Wells.THREE);
        Wells.fill(x, 2, 1, -1, 112, 103, -1);
        Check.due("till one can't be", 3, () -> x.perform(2));
        Check.due("asked", 1, () -> x.person(0, 1));
        Check.due("a day", 1, () -> x.count(4));
        Check.due("moved", 1, () -> x.at(2));
        Check.due("each a deed", 3, () -> x.count(10));
        x.undo(1);
        Check.due("undone", 2, () -> x.at(2));
        Check.refused("perform(3)", IllegalStateException.class, () -> x.perform(3));
        Check.refused("perform(4)", NoSuchElementException.class, () -> x.perform(4));
    }

    private static int drawn;

    private static int draw() {
        drawn = drawn * 1103515245 + 12345;
        return drawn >>> 16;
    }

    private static void season() {
        int[] kinds = new int[3];
        for (int seed = -40; seed < 40; seed++) {
            WellQueue x = Wells.of(Wells.THREE);
            x.leave(1);
            int due = seed;
            drawn = seed;
            int kind = draw() % 3;
            kinds[kind]++;
            int p = draw() % 3;
            int third = draw();
            boolean can = kind == 0 || (p != 1 && (kind == 1 || third % 3 < 2));
            Check.due("season of " + seed, can ? 1 : 0, () -> x.season(due, 1));
            Check.due("deeds of " + seed, can ? 2 : 1, () -> x.count(10));
            Check.due("day of " + seed, kind == 0 ? 1 : 0, () -> x.count(4));
            if (can && kind == 1) {
                Check.due("asked by " + seed, third % 2, () -> x.person(p, 1));
            }
            if (can && kind == 2) {
                Check.due("moved by " + seed, third % 3, () -> x.person(p, 0));
            }
        }
        Check.due("each kind was drawn", 1, () -> kinds[0] * kinds[1] * kinds[2] > 0 ? 1 : 0);
        WellQueue x = Wells.of(Wells.THREE);
        int made = x.season(7, 30);
        Check.due("12 can be undone", Math.min(12, made), () -> x.count(10));
        Check.refused("season(1, 0)", IllegalArgumentException.class, () -> x.season(1, 0));
        Check.refused("season(1, 31)", IllegalArgumentException.class, () -> x.season(1, 31));
        WellQueue y = Wells.of("goods 1;");
        Check.refused("no people", IllegalStateException.class, () -> y.season(1, 1));
        Check.refused("how many times goes first", IllegalArgumentException.class, () -> y.season(1, 0));
    }
}
