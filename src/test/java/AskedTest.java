import java.util.NoSuchElementException;

/** Promises 28 to 31: kindest, settles, plot, promise. */
final class AskedTest {
    private AskedTest() {
    }

    public static void main(String[] args) {
        kindest();
        settles();
        plot();
        promise();
        Check.end();
    }

    private static void kindest() {
        WellQueue x = Wells.of(Wells.THREE);
        Check.due("what p1 likes", 1, () -> x.kindest(0, true));
        Check.due("what p1 likes less", 0, () -> x.kindest(0, false));
        Check.due("what p2 likes", 1, () -> x.kindest(1, true));
        Check.due("what p2 likes less", 0, () -> x.kindest(1, false));
        Check.due("it hurts nobody", 0, () -> x.kindest(2, true));
        Check.due("nor so", 0, () -> x.kindest(2, false));
        Check.due("nothing changes", 0, () -> x.count(10));
        WellQueue y = Wells.of(Wells.THREE + "law good=0 and place<1 or place>1 and good>0;");
        Check.due("what is allowed", 0, () -> y.kindest(0, true));
        Check.due("none is allowed", -1, () -> y.kindest(1, true));
        Check.due("none is allowed, cruel", -1, () -> y.kindest(1, false));
        Check.due("the first that is", 1, () -> y.kindest(2, false));
        WellQueue ring = Wells.of("goods 2;ring;person age 1 gold 0 asks 0 worth 9 0;");
        Check.due("what falls to itself isn't counted", 0, () -> ring.kindest(0, false));
        y.leave(0);
        Check.refused("kindest(0)", IllegalStateException.class, () -> y.kindest(0, true));
        Check.refused("kindest(3)", NoSuchElementException.class, () -> y.kindest(3, true));
    }

    private static void settles() {
        WellQueue x = Wells.of(Wells.THREE + "likes 0 1 2;likes 1 2 -1;");
        long[] due = {2, 1, 3};
        for (int what = 0; what < 3; what++) {
            int w = what;
            Check.due("settles(" + what + ")", due[what], () -> x.settles(w));
        }
        Check.due("p0 asks what p1 likes", 1, () -> x.settles(10));
        Check.due("p1 asks what p2 doesn't like", 0, () -> x.settles(11));
        Check.due("p2 stays", 0, () -> x.settles(12));
        Check.due("nothing is asked in truth", 0, () -> x.person(0, 1));
        Check.refused("settles(3)", IllegalArgumentException.class, () -> x.settles(3));
        Check.refused("settles(9)", IllegalArgumentException.class, () -> x.settles(9));
        Check.refused("settles(13)", IllegalArgumentException.class, () -> x.settles(13));
        Check.refused("settles(-1)", IllegalArgumentException.class, () -> x.settles(-1));
        x.leave(0);
        Check.due("who is out of the queue asks as before", 0, () -> x.settles(10));
        WellQueue calm = Wells.of(Wells.THREE);
        Check.due("a round that changes nothing", 1, () -> calm.settles(0));
        Check.due("it changed nothing", 1, () -> calm.settles(1));
        WellQueue restless = Wells.of("goods 2;ring;middle;person age 0 gold 0 asks 0 worth 4 -3;"
                + "person age 0 gold 0 asks 0 worth 7 1;person age 0 gold 0 asks 1 worth -8 9;"
                + "person age 0 gold 0 asks 0 worth -7 6;likes 3 0 3;likes 1 2 6;likes 0 3 9;likes 0 2 -3;"
                + "likes 1 0 -3;likes 1 3 -7;likes 3 1 -2;likes 3 2 -6;likes 2 3 -4;");
        Check.due("30 rounds at most", 30, () -> restless.settles(0));
        Check.due("the last one changed something", 0, () -> restless.settles(1));
        // p1 asks 1, which is not allowed; p0 gets water by it, and 0 is worth as much to it
        WellQueue law = Wells.of("goods 2;ring;person age 1 gold 0 asks 0 worth 0 0;"
                + "person age 1 gold 0 asks 1 worth 3 3;law good=0;likes 0 1 9;likes 1 0 9;");
        Check.due("only by what is greater", 1, () -> law.settles(11));
        Check.due("one round", 1, () -> law.settles(0));
        WellQueue gains = Wells.of("goods 3;person age 1 gold 0 asks 0 worth 0 0 0;"
                + "person age 1 gold 0 asks 0 worth 1 5 5;likes 0 1 1;");
        Check.due("the first of like ones", 1, () -> gains.settles(10));
        Check.due("what falls then", 5, () -> gains.settles(2));
    }

    private static void plot() {
        WellQueue x = Wells.of(Wells.THREE);
        Check.due("p1 against p2", -4, () -> x.plot(2, 2, 0));
        Check.due("what p1 asks", 0, () -> x.plot(2, 2, 10));
        Check.due("p0 can do nothing", 1, () -> x.plot(1, 2, 0));
        Check.due("the first good", 0, () -> x.plot(1, 2, 10));
        Check.due("both", -4, () -> x.plot(3, 2, 0));
        Check.due("both: p0 asks the first", 0, () -> x.plot(3, 2, 10));
        Check.due("both: p1", 0, () -> x.plot(3, 2, 11));
        Check.due("those behind", 0, () -> x.plot(6, 0, 0));
        Check.refused("what 12", IllegalArgumentException.class, () -> x.plot(3, 2, 12));
        Check.refused("what 1", IllegalArgumentException.class, () -> x.plot(3, 2, 1));
        Check.refused("what -1", IllegalArgumentException.class, () -> x.plot(3, 2, -1));
        Check.refused("no set", IllegalArgumentException.class, () -> x.plot(0, 2, 0));
        Check.refused("it has that one", IllegalArgumentException.class, () -> x.plot(7, 2, 0));
        Check.refused("it has others", IllegalArgumentException.class, () -> x.plot(9, 2, 0));
        Check.refused("a negative set", IllegalArgumentException.class, () -> x.plot(Integer.MIN_VALUE, 2, 0));
        Check.refused("no such one", NoSuchElementException.class, () -> x.plot(0, 3, 1));
        x.leave(0);
        Check.refused("the one isn't in the queue", IllegalStateException.class, () -> x.plot(0, 0, 1));
        Check.refused("one of it isn't", IllegalArgumentException.class, () -> x.plot(1, 2, 0));
        StringBuilder text = new StringBuilder("goods 2;middle;");
        for (int p = 0; p < 5; p++) {
            text.append("person age ").append(p).append(" gold 0 asks 1 worth 0 5;");
        }
        WellQueue five = Wells.of(text.toString());
        Check.due("one of three can't", 5, () -> five.plot(8, 4, 0));
        Check.due("two can", 0, () -> five.plot(12, 4, 0));
        Check.due("the first way is 0 0 0: p1", 0, () -> five.plot(14, 4, 10));
        Check.due("the first way is 0 0 0: p3", 0, () -> five.plot(14, 4, 12));
        Check.refused("four are too many", IllegalArgumentException.class, () -> five.plot(15, 4, 0));
        WellQueue law = Wells.of(text + "law good=0 and age<3 or age>3;");
        Check.due("p3 is not allowed any", 0, () -> law.plot(8, 4, 0));
        Check.due("it asks as now", 1, () -> law.plot(8, 4, 10));
    }

    private static void promise() {
        WellQueue x = Wells.of(Wells.THREE + "likes 0 1 2;likes 1 2 -1;");
        // p0 asks 1 (p1 gets 7, before it 2), p1 asks 1 as it did
        Check.due("it holds", 1, () -> x.promise(3, 0));
        Check.due("by how much more", 5, () -> x.promise(3, 1));
        Check.due("p1 would like p2 to get less", 1, () -> x.promise(3, 2));
        Check.due("by nobody", -1, () -> x.promise(5, 2));
        Check.due("nothing falls to p0, 1 to p2 as before", 0, () -> x.promise(5, 1));
        Check.refused("one alone", IllegalArgumentException.class, () -> x.promise(1, 0));
        Check.refused("none", IllegalArgumentException.class, () -> x.promise(0, 0));
        Check.refused("others", IllegalArgumentException.class, () -> x.promise(9, 0));
        Check.refused("what 3", IllegalArgumentException.class, () -> x.promise(3, 3));
        Check.refused("what -1", IllegalArgumentException.class, () -> x.promise(3, -1));
        x.leave(0);
        Check.refused("one is out of the queue", IllegalArgumentException.class, () -> x.promise(3, 0));
        // all are kind by how things are now, and by the middle of three that may hurt one
        WellQueue ring = Wells.of("goods 3;ring;person age 1 gold 0 asks 0 worth 5 0 0;"
                + "person age 1 gold 0 asks 0 worth 0 6 0;law good<2;");
        Check.due("p0 asks 1, p1 stays: it holds", 1, () -> ring.promise(3, 0));
        Check.due("6 more", 6, () -> ring.promise(3, 1));
        Check.due("nobody breaks it", -1, () -> ring.promise(3, 2));
        // p1 is kind by 1: p0 gets 7 for 5; p0 is kind by 0: p1 gets 2 as before
        WellQueue first = Wells.of("goods 2;ring;person age 1 gold 0 asks 0 worth 5 7;"
                + "person age 1 gold 0 asks 0 worth 2 1;likes 0 1 -1;");
        Check.due("more for the first place", 2, () -> first.promise(3, 1));
        Check.due("it holds for both", 1, () -> first.promise(3, 0));
        Check.due("p0 doesn't like p1", 0, () -> first.promise(3, 2));
        // by the middle of three all would get 1 by two kind ones, which p1 alone doesn't want
        WellQueue hurt = Wells.of("goods 2;ring;middle;person age 1 gold 0 asks 0 worth 0 4;"
                + "person age 1 gold 0 asks 1 worth 3 1;person age 1 gold 0 asks 0 worth 0 9;");
        Check.due("to p1 less falls then", 0, () -> hurt.promise(7, 0));
        Check.due("to all of it more falls", 11, () -> hurt.promise(7, 1));
        hurt.move(1, 0);
        Check.due("nor if p1 stands first", 0, () -> hurt.promise(7, 0));
        WellQueue law = Wells.of(Wells.THREE + "law good>5;");
        Check.due("none is allowed any", 1, () -> law.promise(7, 0));
        Check.due("nothing more", 0, () -> law.promise(7, 1));
        Check.due("nor is it broken", -1, () -> law.promise(7, 2));
    }
}
