import java.util.NoSuchElementException;

/** Promises 41 and 42: secrets, sure. */
final class SecretsTest {
    private SecretsTest() {
    }

    public static void main(String[] args) {
        behindOne();
        laws();
        middle();
        ring();
        refused();
        nobody();
        many();
        Check.end();
    }

    private static void ways(WellQueue x, String name, long due, long... came) {
        Wells.fill(x, 0, came);
        Check.due(name, due, () -> x.secrets(0));
    }

    private static void sure(WellQueue x, String name, int... due) {
        for (int place = 0; place < due.length; place++) {
            int there = place;
            Check.due(name + ": sure at " + place, due[place], () -> x.sure(0, there));
        }
    }

    private static void behindOne() {
        WellQueue x = Wells.of(Wells.THREE);
        ways(x, "all is told", 2, -2, 0, 1);
        sure(x, "all is told", 0, 1, -1);
        ways(x, "nothing is told", 8, -1, -1, -1);
        sure(x, "nothing is told", -1, -1, -1);
        ways(x, "one is told", 4, -1, -1, 1);
        sure(x, "one is told", -1, 1, -1);
        ways(x, "nothing can fall to the first one", 0, 0, -1, -1);
        sure(x, "nothing can fall to the first one", -1, -1, -1);
        ways(x, "nobody may ask water", 0, -1, -2, -1);
        x.move(2, 0);
        ways(x, "by places", 2, -2, 1, 0);
        sure(x, "by places", 1, 0, -1);
        x.pour(0);
        Check.due("what is poured can be", 2, () -> x.secrets(0));
    }

    private static void laws() {
        WellQueue x = Wells.of(Wells.THREE + "law good=1 and place<2 and place>0;");
        ways(x, "the first and the last one ask water", 1, -2, -2, 1);
        sure(x, "the first and the last one ask water", -1, 1, -1);
        ways(x, "no other way", 0, -2, 0, 1);
    }

    private static void middle() {
        StringBuilder text = new StringBuilder("goods 3;middle;");
        for (int p = 0; p < 4; p++) {
            text.append("person age 0 gold 0 asks 0 worth 0 0 0;");
        }
        WellQueue x = Wells.of(text.toString());
        // of 27 triples the middle is 0 in 7, 1 in 13, 2 in 7; the last one asks as it likes
        ways(x, "middle 0", 21, -2, -2, -2, 0);
        ways(x, "middle 1", 39, -1, -2, -1, 1);
        ways(x, "middle 2", 21, -1, -1, -1, 2);
        ways(x, "middle water", 0, -1, -1, -1, -2);
        ways(x, "any", 81, -1, -1, -1, -1);
        WellQueue night = Wells.of(text + "night;");
        night.ask(3, 2);
        night.ask(2, 1);
        night.days(1);
        // 0 1 2 stood there: the first one got 1; the second one the middle of 1, 2 and what the first one asked
        ways(night, "night: 1 fell to the first one", 81, 1, -1, -1, -1);
        ways(night, "night: not 0", 0, 0, -1, -1, -1);
        ways(night, "night: 2 to the second one", 27, 1, 2, -1, -1);
        sure(night, "night: 2 to the second one", 2, -1, -1, -1);
        ways(night, "night: 1 to the second one", 54, 1, 1, -1, -1);
        ways(night, "night: 0 to the third one", 9, 1, -1, 0, -1);
        sure(night, "night: 0 to the third one", 0, 0, -1, -1);
    }

    private static void ring() {
        String two = "person age 0 gold 0 asks 0 worth 0 0;";
        for (String way : new String[] {"behind 1;", "behind 2;", "middle;"}) {
            WellQueue one = Wells.of("goods 2;ring;" + way + two);
            ways(one, "one alone, " + way, 1, 1);
            sure(one, "one alone, " + way, 1);
            ways(one, "one alone, not told, " + way, 2, -1);
        }
        WellQueue pair = Wells.of("goods 2;ring;middle;" + two + two);
        // ahead of the first one stand 1 0 1, ahead of the second one 0 1 0
        ways(pair, "two in a ring", 1, 1, 0);
        sure(pair, "two in a ring", 0, 1);
        WellQueue three = Wells.of("goods 2;ring;middle;" + two.repeat(3));
        ways(three, "all three get the same", 4, 0, 0, 0);
        ways(three, "none gets another one", 0, 0, 1, -1);
        WellQueue five = Wells.of("goods 2;ring;behind 2;" + two.repeat(5));
        ways(five, "each by one other", 1, 0, 1, 1, 0, 1);
        sure(five, "each by one other", 1, 0, 1, 0, 1);
        WellQueue four = Wells.of("goods 2;ring;middle;" + two.repeat(4));
        // each gets what most of the other three ask: one 0 alone among 1 1 1 makes 1 1 1 1
        ways(four, "four 1s", 5, 1, 1, 1, 1);
        sure(four, "four 1s", -1, -1, -1, -1);
        ways(four, "two and two", 1, 1, 1, 0, 0);
    }

    private static void refused() {
        WellQueue x = Wells.of(Wells.THREE);
        Check.refused("MISSING", IllegalStateException.class, () -> x.secrets(0));
        Check.refused("MISSING, sure", IllegalStateException.class, () -> x.sure(0, 9));
        Check.refused("no such tray", NoSuchElementException.class, () -> x.secrets(4));
        Check.refused("no such tray, sure", NoSuchElementException.class, () -> x.sure(-1, 9));
        long[][] none = {{0, 0, 2}, {-3, 0, 0}, {0, 0}, {0, 0, 0, 0}, {0, 4294967296L, 0}, {Long.MIN_VALUE, 0, 0}};
        for (long[] row : none) {
            Wells.fill(x, 0, row);
            Check.refused("none such", IllegalArgumentException.class, () -> x.secrets(0));
            Check.refused("none such, sure", IllegalArgumentException.class, () -> x.sure(0, 0));
        }
        Wells.fill(x, 0, -1, -1, -1);
        Check.refused("sure at 3", IllegalArgumentException.class, () -> x.sure(0, 3));
        Check.refused("sure at -1", IllegalArgumentException.class, () -> x.sure(0, -1));
    }

    private static void nobody() {
        WellQueue x = new WellQueue();
        x.tray(0, 0, 0);
        Check.due("nobody asked", 1, () -> x.secrets(0));
        Check.refused("at no place", IllegalArgumentException.class, () -> x.sure(0, 0));
        x.ring();
        Check.due("nobody asked round the ring", 1, () -> x.secrets(0));
    }

    private static void many() {
        StringBuilder text = new StringBuilder("goods 6;ring;middle;");
        for (int p = 0; p < 8; p++) {
            text.append("person age 0 gold 0 asks 0 worth 0 0 0 0 0 0;");
        }
        WellQueue x = Wells.of(text.toString());
        ways(x, "6 to the 8th", 1679616, -1, -1, -1, -1, -1, -1, -1, -1);
        // the middle of three is 0 in 16 of 216
        ways(x, "one is told", 124416, 0, -1, -1, -1, -1, -1, -1, -1);
    }
}
