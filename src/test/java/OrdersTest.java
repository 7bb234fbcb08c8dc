/** Promises 25 to 27: best, orders, standBest. */
final class OrdersTest {
    private OrdersTest() {
    }

    public static void main(String[] args) {
        best();
        orders();
        noOrder();
        places();
        ringAndNight();
        standBest();
        all();
        Check.end();
    }

    private static void row(String name, WellQueue x, int... due) {
        for (int k = 0; k < 8; k++) {
            int what = 10 + k;
            Check.due(name + ": best(" + what + ")", k < due.length ? due[k] : -1, () -> x.best(what));
        }
    }

    private static void best() {
        WellQueue x = Wells.of(Wells.THREE);
        // 2 0 1: water, 5, 2
        Check.due("best(0)", 7, () -> x.best(0));
        row("three", x, 2, 0, 1);
        Check.refused("best(1)", IllegalArgumentException.class, () -> x.best(1));
        Check.refused("best(9)", IllegalArgumentException.class, () -> x.best(9));
        Check.refused("best(18)", IllegalArgumentException.class, () -> x.best(18));
        Check.refused("best(-1)", IllegalArgumentException.class, () -> x.best(-1));
        x.leave(2);
        Check.due("without one", 2, () -> x.best(0));
        row("two", x, 0, 1);
        x.undo(1);
        Check.due("with it again", 7, () -> x.best(0));
        WellQueue y = Wells.of(Wells.THREE + "apart 0 2;");
        Check.due("apart", 3, () -> y.best(0));
        row("apart", y, 0, 1, 2);
        WellQueue none = new WellQueue();
        Check.due("nobody", 0, () -> none.best(0));
        row("nobody", none);
    }

    private static void orders() {
        WellQueue x = Wells.of(Wells.THREE);
        // 012: 3, 021: -2, 102: -7, 120: 6, 201: 7, 210: -1
        int[] sums = {3, -2, -7, 6, 7, -1};
        for (int least = -8; least <= 8; least++) {
            int many = 0;
            for (int sum : sums) {
                many += sum >= least ? 1 : 0;
            }
            int from = least;
            Check.due("orders(" + least + ")", many, () -> x.orders(from));
        }
        Check.due("orders of least int", 6, () -> x.orders(Integer.MIN_VALUE));
        Check.due("orders of greatest int", 0, () -> x.orders(Integer.MAX_VALUE));
        WellQueue y = Wells.of(Wells.THREE + "ring;apart 0 2;");
        Check.due("the last and the first aside", 2, () -> y.orders(-99));
        WellQueue none = new WellQueue();
        Check.due("one row of nobody", 1, () -> none.orders(0));
        Check.due("nothing falls there", 0, () -> none.orders(1));
    }

    private static void noOrder() {
        WellQueue x = Wells.of(Wells.THREE + "apart 0 1;apart 1 2;apart 2 0;");
        Check.due("no order", -1, () -> x.best(0));
        row("no order", x);
        Check.due("none of them", 0, () -> x.orders(-999));
        Check.refused("standBest()", IllegalStateException.class, x::standBest);
        x.leave(0);
        x.leave(1);
        Check.due("one alone", 0, () -> x.best(0));
        row("one alone", x, 2);
    }

    private static void places() {
        // only at the first place one is allowed anything
        WellQueue x = Wells.of(Wells.THREE + "law place<1;");
        Check.due("by places of the row", 5, () -> x.best(0));
        row("law of places", x, 2, 0, 1);
    }

    private static void ringAndNight() {
        WellQueue x = Wells.of(Wells.THREE + "ring;");
        // 0 1 2: 5 + 2 + 1; the same ring from each of them on
        Check.due("ring", 8, () -> x.best(0));
        row("ring", x, 0, 1, 2);
        WellQueue y = Wells.of(Wells.THREE + "night;");
        y.days(1);
        // the night brings 0 to the first one: 0 1 2 makes 5 + 2 + 1, 1 2 0 makes 2 + 1 + 5
        Check.due("night", 8, () -> y.best(0));
        row("night", y, 0, 1, 2);
        WellQueue z = Wells.of(Wells.THREE + "ring;middle;");
        Check.due("ring and middle", 3, () -> z.best(0));
        Check.due("in each order", 6, () -> z.orders(3));
        WellQueue w = Wells.of(Wells.THREE + "behind 2;");
        // only the third one gets something, what the first one asks: 1 0 2 and 2 0 1 make 1 and 2, 1 2 0 -3, 2 1 0 5
        Check.due("behind 2", 5, () -> w.best(0));
        row("behind 2", w, 2, 1, 0);
    }

    private static void standBest() {
        WellQueue x = Wells.of(Wells.THREE);
        Check.due("standBest()", 7, x::standBest);
        Check.due("it stands so", 2, () -> x.at(0));
        Check.due("a deed", 1, () -> x.count(10));
        Check.due("again", 7, x::standBest);
        Check.due("a deed again", 2, () -> x.count(10));
        x.undo(2);
        Check.due("undone", 0, () -> x.at(0));
        WellQueue none = Wells.of("goods 1;");
        Check.refused("nobody", IllegalStateException.class, none::standBest);
    }

    private static void all() {
        StringBuilder text = new StringBuilder("goods 1;");
        for (int p = 0; p < 8; p++) {
            text.append("person age 1 gold 0 asks 0 worth ").append(p).append(";");
        }
        WellQueue x = Wells.of(text + "apart 0 7;");
        Check.due("8! less 2 7!", 30240, () -> x.orders(0));
        Check.due("those by which the least stands first", 4320, () -> x.orders(28));
        Check.due("all but 0", 28, () -> x.best(0));
        row("eight", x, 0, 1, 2, 3, 4, 5, 6, 7);
    }
}
