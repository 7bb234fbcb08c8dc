import java.util.NoSuchElementException;

/** Promises 32 to 36: guard, price, bestPlace, worthOf, share. */
final class PlacesTest {
    private PlacesTest() {
    }

    public static void main(String[] args) {
        guard();
        price();
        bestPlace();
        worthOf();
        share();
        Check.end();
    }

    private static void guard() {
        WellQueue x = Wells.of(Wells.THREE);
        // ahead of p2: p1 as now brings 1, p0 brings 0, worth -4
        Check.due("guard of p2", 1, () -> x.guard(2, 0));
        Check.due("it gets", 1, () -> x.guard(2, 1));
        Check.due("guard of p0", 2, () -> x.guard(0, 0));
        Check.due("it gets 5", 5, () -> x.guard(0, 1));
        Check.due("guard of p1: p0 and p2 bring the same", 0, () -> x.guard(1, 0));
        Check.due("it gets 2", 2, () -> x.guard(1, 1));
        Check.due("nothing changes", 0, () -> x.at(0));
        Check.refused("what 2", IllegalArgumentException.class, () -> x.guard(0, 2));
        Check.refused("what -1", IllegalArgumentException.class, () -> x.guard(0, -1));
        // behind 2: who is moved ahead of p2 shifts the others; 1 0 2: p1's 1 falls to p2, 0 1 2: p0's 0
        WellQueue y = Wells.of(Wells.THREE + "behind 2;");
        Check.due("behind 2: guard of p2", 0, () -> y.guard(2, 0));
        Check.due("behind 2: it gets", 1, () -> y.guard(2, 1));
        // p2 moved to place 0 may ask by this law, p0 stands at place 1 then
        WellQueue law = Wells.of(Wells.THREE + "law place=0;");
        Check.due("by the law of the places then", 2, () -> law.guard(0, 0));
        Check.due("it gets by that law", 5, () -> law.guard(0, 1));
        x.leave(0);
        Check.refused("p0 isn't in the queue", IllegalStateException.class, () -> x.guard(0, 9));
        Check.refused("no such one", NoSuchElementException.class, () -> x.guard(3, 9));
        x.leave(1);
        Check.due("nobody else", -1, () -> x.guard(2, 0));
        Check.due("nobody else: 0", 0, () -> x.guard(2, 1));
    }

    private static void price() {
        WellQueue x = Wells.of(Wells.THREE);
        long[][] due = {{0, -3, 5}, {-2, 0, 0}, {-1, -5, 0}};
        for (int p = 0; p < 3; p++) {
            for (int place = 0; place < 3; place++) {
                int one = p;
                int there = place;
                Check.due("price(" + p + ", " + place + ")", due[p][place], () -> x.price(one, there));
            }
        }
        Check.due("nobody moves", 0, () -> x.count(10));
        Check.refused("price(0, 3)", IllegalArgumentException.class, () -> x.price(0, 3));
        Check.refused("price(0, -1)", IllegalArgumentException.class, () -> x.price(0, -1));
        x.leave(0);
        Check.refused("out of the queue", IllegalStateException.class, () -> x.price(0, 9));
        Check.refused("no such one", NoSuchElementException.class, () -> x.price(-1, 9));
    }

    private static void bestPlace() {
        WellQueue x = Wells.of(Wells.THREE);
        Check.due("bestPlace(0)", 2, () -> x.bestPlace(0));
        Check.due("bestPlace(1): the first of like ones", 1, () -> x.bestPlace(1));
        Check.due("bestPlace(2)", 2, () -> x.bestPlace(2));
        x.leave(2);
        Check.refused("out of the queue", IllegalStateException.class, () -> x.bestPlace(2));
        Check.refused("no such one", NoSuchElementException.class, () -> x.bestPlace(3));
    }

    private static void worthOf() {
        WellQueue x = Wells.of(Wells.THREE + "apart 0 2;ring;night;");
        long[] due = {0, 0, 0, 2, 0, 5, 2, 7};
        for (int set = 0; set < 8; set++) {
            int of = set;
            Check.due("worthOf(" + set + ")", due[set], () -> x.worthOf(of));
        }
        Check.refused("worthOf(8)", IllegalArgumentException.class, () -> x.worthOf(8));
        Check.refused("worthOf(-1)", IllegalArgumentException.class, () -> x.worthOf(-1));
        x.leave(2);
        Check.refused("out of the queue", IllegalArgumentException.class, () -> x.worthOf(4));
        // what is allowed now counts, wherever one stands in the row
        WellQueue law = Wells.of(Wells.THREE + "law place<1;");
        Check.due("by what is allowed now", 2, () -> law.worthOf(7));
        Check.due("p2 asks water now", 0, () -> law.worthOf(6));
        WellQueue bad = Wells.of("goods 1;person age 1 gold 0 asks 0 worth -3;person age 1 gold 0 asks 0 worth -5;");
        Check.due("some row must be", -3, () -> bad.worthOf(3));
        WellQueue two = Wells.of(Wells.THREE + "behind 2;");
        Check.due("by two", 5, () -> two.worthOf(7));
        Check.due("two of them get nothing by two", 0, () -> two.worthOf(3));
    }

    private static void share() {
        WellQueue x = Wells.of(Wells.THREE);
        Check.due("share(0)", 17, () -> x.share(0));
        Check.due("share(1)", 8, () -> x.share(1));
        Check.due("share(2)", 17, () -> x.share(2));
        x.leave(0);
        Check.due("two: share(1)", 2, () -> x.share(1));
        Check.due("two: share(2)", 2, () -> x.share(2));
        Check.refused("out of the queue", IllegalStateException.class, () -> x.share(0));
        Check.refused("no such one", NoSuchElementException.class, () -> x.share(3));
        StringBuilder text = new StringBuilder("goods 1;");
        for (int p = 0; p < 7; p++) {
            text.append("person age 1 gold 0 asks 0 worth 1;");
        }
        WellQueue seven = Wells.of(text.toString());
        Check.refused("seven", IllegalStateException.class, () -> seven.share(0));
        Check.refused("seven: worthOf", IllegalStateException.class, () -> seven.worthOf(1));
        Check.refused("seven: worthOf of others", IllegalStateException.class, () -> seven.worthOf(-1));
        seven.leave(3);
        Check.due("six: 5 of 6 times 6!", 600, () -> seven.share(6));
        Check.due("six: worthOf all", 5, () -> seven.worthOf(127 - 8));
    }
}
