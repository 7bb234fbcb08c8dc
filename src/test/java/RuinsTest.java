import java.util.NoSuchElementException;

/** Promises 37 to 40: ruined, firstRuined, by, bestWay. */
final class RuinsTest {
    private RuinsTest() {
    }

    public static void main(String[] args) {
        ruined();
        farRuin();
        firstRuined();
        by();
        bestWay();
        Check.end();
    }

    private static void ruined() {
        WellQueue x = Wells.of(Wells.THREE + "ruin 9;");
        Check.due("1 each day", -1, () -> x.ruined(2));
        x.ask(1, 0);
        Check.due("-4 -8 -12", 3, () -> x.ruined(2));
        Check.due("nothing falls to p0", -1, () -> x.ruined(0));
        Check.due("no day passes", 0, () -> x.count(4));
        x.days(1);
        Check.due("-8 -12", 2, () -> x.ruined(2));
        x.leave(2);
        Check.refused("out of the queue", IllegalStateException.class, () -> x.ruined(2));
        Check.refused("no such one", NoSuchElementException.class, () -> x.ruined(3));
        WellQueue none = Wells.of(Wells.THREE);
        none.ask(1, 0);
        Check.due("no ruin", -1, () -> none.ruined(2));
        // as p1 is ruined p2 closes up behind p0
        WellQueue y = Wells.of("goods 1;ruin 5;law gold>0;person age 0 gold 1 asks 0 worth 0;"
                + "person age 0 gold 0 asks 0 worth -5;person age 0 gold 0 asks 0 worth -2;");
        Check.due("p1 at once", 1, () -> y.ruined(1));
        Check.due("p2 behind it", 4, () -> y.ruined(2));
    }

    private static void farRuin() {
        String two = "goods 1;person age 0 gold 0 asks 0 worth 0;person age 0 gold 0 asks 0 worth -1;";
        WellQueue x = Wells.of(two + "ruin 99;");
        Check.due("99 days", 99, () -> x.ruined(1));
        Check.due("in 99 days", 1, x::firstRuined);
        WellQueue y = Wells.of(two + "ruin 100;");
        Check.due("100 days", -1, () -> y.ruined(1));
        Check.due("not in 99 days", -1, y::firstRuined);
    }

    private static void firstRuined() {
        WellQueue x = Wells.of("goods 1;ruin 6;person age 0 gold 0 asks 0 worth 0;"
                + "person age 0 gold 0 asks 0 worth -2;person age 0 gold 0 asks 0 worth -3;"
                + "person age 0 gold 0 asks 0 worth -3;");
        Check.due("-3 -6, the first of both", 2, x::firstRuined);
        x.move(3, 1);
        Check.due("by numbers, not by places", 2, x::firstRuined);
        x.leave(2);
        Check.due("who is in the queue", 3, x::firstRuined);
        x.leave(3);
        Check.due("then p1", 1, x::firstRuined);
        x.leave(1);
        Check.due("nobody", -1, x::firstRuined);
        WellQueue none = new WellQueue();
        Check.due("no people", -1, none::firstRuined);
    }

    private static void by() {
        WellQueue x = Wells.of(Wells.THREE);
        Check.due("by(1)", 3, () -> x.by(1));
        Check.due("by(2)", -4, () -> x.by(2));
        Check.due("by(3)", 0, () -> x.by(3));
        x.ring();
        Check.due("ring: by(1)", 8, () -> x.by(1));
        Check.due("ring: by(2)", -5, () -> x.by(2));
        Check.due("ring: by(3)", 3, () -> x.by(3));
        Check.due("the way stays", 1, () -> x.count(5));
        Check.refused("by(0)", IllegalArgumentException.class, () -> x.by(0));
        Check.refused("by(4)", IllegalArgumentException.class, () -> x.by(4));
    }

    private static void bestWay() {
        WellQueue x = Wells.of(Wells.THREE);
        Check.due("3, -4, 0", 1, x::bestWay);
        x.ask(1, 0);
        Check.due("-2, -4, 0", 3, x::bestWay);
        WellQueue y = Wells.of("goods 2;person age 0 gold 0 asks 1 worth 0 0;"
                + "person age 0 gold 0 asks 0 worth 0 0;person age 0 gold 0 asks 0 worth 0 1;");
        Check.due("0, 1, 0", 2, y::bestWay);
        y.leave(0);
        Check.due("0, 0, 0", 1, y::bestWay);
        WellQueue none = new WellQueue();
        Check.due("no people", 1, none::bestWay);
    }
}
