import java.util.NoSuchElementException;

/** Promises 5 to 11: person, worth, likes, at, allowed, today, liking; and how things fall. */
final class QueueTest {
    private QueueTest() {
    }

    public static void main(String[] args) {
        person();
        worthAndLikes();
        at();
        allowed();
        lawNames();
        lawSigns();
        today();
        middleNeedsThree();
        ringRound();
        night();
        liking();
        Check.end();
    }

    private static void person() {
        WellQueue x = Wells.of(Wells.THREE);
        long[][] due = {{0, 0, 30, 10, 0, -1, 1}, {1, 1, 40, 4, 0, 0, 1}, {2, 0, 50, 0, 0, 1, 1}};
        for (int p = 0; p < 3; p++) {
            for (int what = 0; what < 7; what++) {
                int q = p;
                int w = what;
                Check.due("person(" + p + ", " + what + ")", due[p][what], () -> x.person(q, w));
            }
        }
        Check.refused("person(3, 0)", NoSuchElementException.class, () -> x.person(3, 0));
        Check.refused("person(-1, 9)", NoSuchElementException.class, () -> x.person(-1, 9));
        Check.refused("person(0, 7)", IllegalArgumentException.class, () -> x.person(0, 7));
        Check.refused("person(0, -1)", IllegalArgumentException.class, () -> x.person(0, -1));
        x.days(2);
        Check.due("its total", 4, () -> x.person(1, 4));
        x.leave(1);
        Check.due("no place", -1, () -> x.person(1, 0));
        Check.due("it still asks", 1, () -> x.person(1, 1));
        Check.due("nothing falls to it", -1, () -> x.person(1, 5));
        Check.due("it isn't allowed", 0, () -> x.person(1, 6));
        Check.due("those behind close up", 1, () -> x.person(2, 0));
        WellQueue y = Wells.of(Wells.THREE + "law good=0;");
        Check.due("not allowed", 0, () -> y.person(1, 6));
        Check.due("so water falls", -1, () -> y.person(2, 5));
        Check.due("what is asked is told all the same", 1, () -> y.person(1, 1));
    }

    private static void worthAndLikes() {
        WellQueue x = Wells.of(Wells.THREE + "likes 0 1 9;likes 1 0 -9;");
        Check.due("worth(0, 1)", -3, () -> x.worth(0, 1));
        Check.due("worth(2, 0)", -4, () -> x.worth(2, 0));
        x.leave(2);
        Check.due("worth of one out of the queue", 1, () -> x.worth(2, 1));
        Check.refused("worth(0, 2)", NoSuchElementException.class, () -> x.worth(0, 2));
        Check.refused("worth(0, -1)", NoSuchElementException.class, () -> x.worth(0, -1));
        Check.refused("worth(3, 0)", NoSuchElementException.class, () -> x.worth(3, 0));
        Check.due("likes(0, 1)", 9, () -> x.likes(0, 1));
        Check.due("likes(1, 0)", -9, () -> x.likes(1, 0));
        Check.due("likes(0, 2)", 0, () -> x.likes(0, 2));
        Check.refused("likes(1, 1)", IllegalArgumentException.class, () -> x.likes(1, 1));
        Check.refused("likes(3, 3)", NoSuchElementException.class, () -> x.likes(3, 3));
        Check.refused("likes(0, 3)", NoSuchElementException.class, () -> x.likes(0, 3));
    }

    private static void at() {
        WellQueue x = Wells.of(Wells.THREE);
        x.move(2, 0);
        Check.due("at(0)", 2, () -> x.at(0));
        Check.due("at(1)", 0, () -> x.at(1));
        Check.due("at(2)", 1, () -> x.at(2));
        Check.refused("at(3)", NoSuchElementException.class, () -> x.at(3));
        Check.refused("at(-1)", NoSuchElementException.class, () -> x.at(-1));
        x.leave(1);
        Check.refused("at(2)", NoSuchElementException.class, () -> x.at(2));
    }

    private static void allowed() {
        WellQueue x = Wells.of(Wells.THREE + "law good=1;");
        Check.due("allowed(0, 0)", 0, () -> x.allowed(0, 0) ? 1 : 0);
        Check.due("allowed(0, 1)", 1, () -> x.allowed(0, 1) ? 1 : 0);
        x.leave(0);
        Check.refused("allowed(0, 1)", IllegalStateException.class, () -> x.allowed(0, 1));
        Check.refused("allowed(0, 2)", NoSuchElementException.class, () -> x.allowed(0, 2));
        Check.refused("allowed(3, 0)", NoSuchElementException.class, () -> x.allowed(3, 0));
    }

    private static void law(boolean due, String law) {
        WellQueue x = Wells.of(Wells.THREE + "law " + law + ";");
        Check.due("law " + law, due ? 1 : 0, () -> x.allowed(1, 0) ? 1 : 0);
    }

    private static void lawNames() {
        law(true, "good=0");
        law(true, "worth=2");
        law(true, "age=40");
        law(true, "gold=4");
        law(true, "place=1");
        law(true, "others=1");
        law(true, "total=0");
        law(true, "day=0");
        WellQueue x = Wells.of(Wells.THREE + "law day=2 or total=0;");
        x.days(12);
        Check.due("day is counted modulo 10", 1, () -> x.allowed(1, 0) ? 1 : 0);
        WellQueue y = Wells.of(Wells.THREE + "law total=6 or day<1 or day<2 or day<3;");
        y.days(3);
        Check.due("total is what fell so far", 1, () -> y.allowed(1, 0) ? 1 : 0);
        WellQueue z = Wells.of(Wells.THREE + "law place=0 and others=1;");
        Check.due("two are behind", 0, () -> z.allowed(0, 0) ? 1 : 0);
        z.leave(2);
        Check.due("one is behind", 1, () -> z.allowed(0, 0) ? 1 : 0);
    }

    private static void lawSigns() {
        law(true, "1+2*3=7");
        law(false, "1+2*3=9");
        law(true, "(1+2)*3=9");
        law(true, "5-2-1=2");
        law(true, "1<2");
        law(false, "2<2");
        law(true, "3>2");
        law(false, "2>2");
        law(true, "1=1 or 1=1 and 1=0");
        law(false, "[1=1 or 1=1] and 1=0");
        law(true, "not 1=0 or 1=1");
        law(true, "not 1=0 and 1=1");
        law(false, "not [1=0 or 1=1]");
        law(true, "not not 1=1");
        law(true, "999*999*999=(999+1)*(999+1)");
        law(true, "999*999*999-1=999*(999+1)+999");
        law(true, "0-999*999*999-5=0-(999+1)*(999+1)");
        law(true, "999*999*999-999*999*999=0");
    }

    private static void today() {
        WellQueue x = Wells.of(Wells.THREE);
        Check.due("behind 1", 3, x::today);
        WellQueue y = Wells.of(Wells.THREE + "behind 2;");
        Check.due("behind 2", -4, y::today);
        WellQueue z = Wells.of(Wells.THREE + "ring;");
        Check.due("round a ring", 8, z::today);
        WellQueue law = Wells.of(Wells.THREE + "law place>0;");
        Check.due("water is worth 0", 1, law::today);
        x.leave(0);
        x.leave(1);
        x.leave(2);
        Check.due("nobody", 0, x::today);
    }

    private static void middleNeedsThree() {
        String four = "goods 3;middle;"
                + "person age 1 gold 0 asks 2 worth 1 1 1;"
                + "person age 1 gold 0 asks 0 worth 1 1 1;"
                + "person age 1 gold 0 asks 1 worth 1 1 1;"
                + "person age 1 gold 0 asks 1 worth 10 20 40;";
        WellQueue x = Wells.of(four);
        Check.due("one of the three is missing", -1, () -> x.person(2, 5));
        Check.due("the middle of 2, 0, 1", 1, () -> x.person(3, 5));
        Check.due("all of it", 20, x::today);
        WellQueue y = Wells.of(four + "law good>0 or place>1;");
        Check.due("the middle of 2, water, 1", 1, () -> y.person(3, 5));
        WellQueue z = Wells.of(four + "law good>1;");
        Check.due("the middle of 2, water, water", -1, () -> z.person(3, 5));
        x.ring();
        Check.due("round the ring: 1, 1, 0", 1, () -> x.person(0, 5));
        Check.due("round the ring: 2, 1, 1", 1, () -> x.person(1, 5));
    }

    private static void ringRound() {
        String one = "goods 2;ring;person age 1 gold 0 asks 1 worth 3 4;";
        for (String way : new String[] {"behind 1;", "behind 2;", "middle;"}) {
            WellQueue x = Wells.of(one + way);
            Check.due("its own, " + way, 1, () -> x.person(0, 5));
        }
        String two = "goods 2;ring;person age 1 gold 0 asks 1 worth 3 4;person age 1 gold 0 asks 0 worth 3 4;";
        WellQueue x = Wells.of(two + "behind 2;");
        Check.due("two ahead it is itself", 1, () -> x.person(0, 5));
        Check.due("two ahead it is itself, too", 0, () -> x.person(1, 5));
        WellQueue y = Wells.of(two + "middle;");
        Check.due("0, 1, 0 stand ahead", 0, () -> y.person(0, 5));
        Check.due("1, 0, 1 stand ahead", 1, () -> y.person(1, 5));
    }

    private static void night() {
        WellQueue x = Wells.of(Wells.THREE + "night;behind 2;");
        Check.due("at first nobody stands ahead", -1, () -> x.person(1, 5));
        x.days(1);
        Check.due("the last but one of the day", 1, () -> x.person(0, 5));
        Check.due("the last one of the day", 0, () -> x.person(1, 5));
        x.ask(2, 1);
        x.leave(1);
        Check.due("what they asked then", 1, () -> x.person(0, 5));
        Check.due("what it asked then", 0, () -> x.person(2, 5));
        x.ring();
        Check.due("the ring goes before the night", 0, () -> x.person(0, 5));
        x.ring();
        x.leave(0);
        x.leave(2);
        x.days(1);
        x.join(1);
        Check.due("nobody stood there the latest day", -1, () -> x.person(1, 5));
        WellQueue y = Wells.of(Wells.THREE + "night;middle;");
        y.days(1);
        Check.due("the middle of 0, 1, 0", 0, () -> y.person(0, 5));
        y.leave(0);
        y.leave(2);
        y.days(1);
        Check.due("none is ahead of the first of these", -1, () -> y.person(1, 5));
        WellQueue z = Wells.of(Wells.THREE + "night;law day=1 or place<1;");
        z.days(1);
        Check.due("as it was allowed then", -1, () -> z.person(0, 5));
        WellQueue ruins = Wells.of("goods 1;night;ruin 1;person age 1 gold 0 asks 0 worth 1;"
                + "person age 1 gold 0 asks 0 worth -1;");
        ruins.days(1);
        Check.due("one is ruined", 1, () -> ruins.count(3));
        Check.due("it stood there that day", 0, () -> ruins.person(0, 5));
    }

    private static void liking() {
        WellQueue x = Wells.of(Wells.THREE + "likes 0 1 2;likes 1 2 -1;likes 1 0 9;");
        Check.due("liking(0)", 4, () -> x.liking(0));
        Check.due("liking(1)", 1, () -> x.liking(1));
        Check.due("liking(2)", 1, () -> x.liking(2));
        x.leave(2);
        Check.due("only those in the queue", 2, () -> x.liking(1));
        Check.refused("liking(2)", IllegalStateException.class, () -> x.liking(2));
        Check.refused("liking(3)", NoSuchElementException.class, () -> x.liking(3));
    }
}
