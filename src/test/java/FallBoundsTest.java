/** The boundary cases of the law, of how things FALL, and of promises 5 to 11. */
final class FallBoundsTest {
    private static final int[] FAR = {Integer.MIN_VALUE, -1, Integer.MAX_VALUE};

    private FallBoundsTest() {
    }

    public static void main(String[] args) {
        kept();
        lawNames();
        dayModulo10();
        whatFallsBehind();
        middle();
        roundAndRound();
        night();
        latestDay();
        person();
        worth();
        likes();
        at();
        allowed();
        today();
        liking();
        Check.end();
    }

    private static String people(int goods, String... asksAndWorths) {
        StringBuilder text = new StringBuilder("goods " + goods + ";");
        for (String one : asksAndWorths) {
            text.append("person age 1 gold 0 asks ").append(one.charAt(0)).append(" worth").append(one.substring(1))
                    .append(";");
        }
        return text.toString();
    }

    private static void falls(String name, WellQueue x, int... due) {
        for (int place = 0; place < due.length; place++) {
            int there = place;
            Check.due(name + ": at place " + place, due[place], () -> x.person(x.at(there), 5));
        }
    }

    // ---- the law

    private static void law(String law) {
        WellQueue x = Wells.of(Wells.THREE + "law " + law + ";");
        Check.due("law " + law, 1, () -> x.allowed(1, 0) ? 1 : 0);
        WellQueue not = Wells.of(Wells.THREE + "law not [" + law + "];");
        Check.due("law not [" + law + "]", 0, () -> not.allowed(1, 0) ? 1 : 0);
    }

    /** Each + - * kept from -1,000,000 to 1,000,000. */
    private static void kept() {
        String million = "999*999+999+999+1";
        law(million + "=999*999*999");
        law(million + "-1=999*999+999+999");
        law(million + "+1=" + million);
        law(million + "+999=" + million);
        law("999+(" + million + ")=" + million);
        law("0-(" + million + ")-1=0-(" + million + ")");
        law("0-(" + million + ")+1>0-(" + million + ")");
        law("0-999-(" + million + ")=0-(" + million + ")");
        law("999-(0-(" + million + "))=" + million);
        law("(" + million + ")*1=" + million);
        law("(" + million + ")*2=" + million);
        law("(0-1)*(" + million + ")=0-(" + million + ")");
        law("(0-2)*(" + million + ")=0-(" + million + ")");
        law("(" + million + ")*(" + million + ")=" + million);
        law("(" + million + ")*(0-(" + million + "))=0-(" + million + ")");
        law("(0-(" + million + "))*(0-(" + million + "))=" + million);
        law("999*999*999*0=0");
        law("999*999*999-999*999*999=0");
        law("(500*2)*(500*2)=" + million);
        law("(500*2)*(500*2)>999*999+999+999");
    }

    private static void lawNames() {
        law("good=0 and worth=2 and age=40 and gold=4 and place=1 and others=1 and total=0 and day=0");
        WellQueue first = Wells.of(Wells.THREE + "law place=0 and others=2;");
        Check.due("its place from 0 on", 1, () -> first.allowed(0, 0) ? 1 : 0);
        WellQueue last = Wells.of(Wells.THREE + "law place=2 and others=0;");
        Check.due("nobody is behind the last one", 1, () -> last.allowed(2, 0) ? 1 : 0);
        last.ring();
        Check.due("nor round a ring", 1, () -> last.allowed(2, 0) ? 1 : 0);
        WellQueue below = Wells.of(Wells.THREE + "law worth<0;");
        Check.due("what it is worth to it", 1, () -> below.allowed(0, 1) ? 1 : 0);
        Check.due("another GOOD", 0, () -> below.allowed(0, 0) ? 1 : 0);
        WellQueue total = Wells.of(people(1, "0 0", "0 -3") + "law total<0 or day=0;");
        total.days(1);
        Check.due("a TOTAL below 0", 1, () -> total.allowed(1, 0) ? 1 : 0);
        Check.due("a TOTAL of 0", 0, () -> total.allowed(0, 0) ? 1 : 0);
        WellQueue gold = Wells.of("goods 1;person age 1 gold 5 asks 0 worth 6;person age 1 gold 0 asks 0 worth -4;"
                + "law gold=4 or gold=1 or day=0;");
        gold.trade(0);
        gold.days(1);
        Check.due("gold as it is now: 5 less 1", 1, () -> gold.allowed(0, 0) ? 1 : 0);
        Check.due("gold as it is now: 0 and 1", 1, () -> gold.allowed(1, 0) ? 1 : 0);
        WellQueue none = Wells.of(Wells.THREE);
        Check.due("without one: always", 1, () -> none.allowed(2, 1) ? 1 : 0);
    }

    private static void dayModulo10() {
        for (int day = 0; day <= 21; day++) {
            WellQueue x = Wells.of(people(1, "0 0") + "law day=" + day % 10 + ";");
            if (day > 0) {
                x.days(day);
            }
            int d = day;
            Check.due("DAY modulo 10, DAY " + day, 1, () -> x.allowed(0, 0) ? 1 : 0);
            Check.due("DAY " + day, d, () -> x.count(4));
            x.days(1);
            Check.due("not on the next one, DAY " + day, 0, () -> x.allowed(0, 0) ? 1 : 0);
        }
    }

    // ---- how things FALL

    private static void whatFallsBehind() {
        String[] five = {"1 0 0 0", "2 0 0 0", "0 0 0 0", "2 0 0 0", "1 0 0 0"};
        falls("behind 1: nobody is ahead of the first one", Wells.of(people(3, five)), -1, 1, 2, 0, 2);
        falls("behind 2: nobody two ahead", Wells.of(people(3, five) + "behind 2;"), -1, -1, 1, 2, 0);
        falls("middle: not three ahead", Wells.of(people(3, five) + "middle;"), -1, -1, -1, 1, 2);
        falls("one alone", Wells.of(people(3, five[0])), -1);
        falls("one alone, behind 2", Wells.of(people(3, five[0]) + "behind 2;"), -1);
        falls("one alone, middle", Wells.of(people(3, five[0]) + "middle;"), -1);
        falls("what is not ALLOWED is WATER", Wells.of(people(3, five) + "law good<2;"), -1, 1, -1, 0, -1);
        WellQueue x = Wells.of(people(3, five));
        x.leave(1);
        x.leave(0);
        falls("those behind close up", x, -1, 0, 2);
        Check.due("who is out of the QUEUE", -1, () -> x.person(1, 5));
    }

    private static void middle() {
        String last = "0 0 0 0";
        int[][] due = {{0, 1, 2, 1}, {2, 1, 0, 1}, {1, 0, 2, 1}, {0, 0, 2, 0}, {2, 0, 2, 2}, {2, 2, 2, 2}, {1, 2, 2, 2}};
        for (int[] row : due) {
            WellQueue x = Wells.of(people(3, row[0] + " 0 0 0", row[1] + " 0 0 0", row[2] + " 0 0 0", last) + "middle;");
            falls("the middle of " + row[0] + row[1] + row[2], x, -1, -1, -1, row[3]);
        }
        String[] mixed = {"2 0 0 0", "0 0 0 0", "1 0 0 0", "1 0 0 0"};
        falls("WATER the least", Wells.of(people(3, mixed) + "middle;law good>0;"), -1, -1, -1, 1);
        falls("WATER twice", Wells.of(people(3, mixed) + "middle;law good=0;"), -1, -1, -1, -1);
        falls("WATER thrice", Wells.of(people(3, mixed) + "middle;law 1=0;"), -1, -1, -1, -1);
    }

    private static void roundAndRound() {
        String one = "1 0 0 0";
        String two = "2 0 0 0";
        String three = "0 0 0 0";
        for (String way : new String[] {"behind 1;", "behind 2;", "middle;"}) {
            falls("it itself, " + way, Wells.of(people(3, one) + "ring;" + way), 1);
        }
        falls("two, behind 1", Wells.of(people(3, one, two) + "ring;behind 1;"), 2, 1);
        falls("two, behind 2: each itself", Wells.of(people(3, one, two) + "ring;behind 2;"), 1, 2);
        falls("two, middle: the other one twice", Wells.of(people(3, one, two) + "ring;middle;"), 2, 1);
        falls("three, behind 1", Wells.of(people(3, one, two, three) + "ring;behind 1;"), 0, 1, 2);
        falls("three, behind 2", Wells.of(people(3, one, two, three) + "ring;behind 2;"), 2, 0, 1);
        falls("three, middle: all of them", Wells.of(people(3, one, two, three) + "ring;middle;"), 1, 1, 1);
        falls("four, middle", Wells.of(people(3, one, two, three, two) + "ring;middle;"), 2, 1, 2, 1);
        falls("it itself is WATER", Wells.of(people(3, one) + "ring;law good=0;"), -1);
        WellQueue none = Wells.of("goods 1;ring;");
        Check.due("nobody round a ring", 0, none::today);
        Check.due("a day of nobody", 0, () -> none.days(3));
    }

    private static void night() {
        String[] four = {"0 0 0 0", "1 0 0 0", "2 0 0 0", "1 0 0 0"};
        WellQueue first = Wells.of(people(3, four) + "night;");
        falls("no DAY was yet", first, -1, 0, 1, 2);
        first.days(1);
        falls("behind 1: the last one of the latest DAY", first, 1, 0, 1, 2);
        WellQueue two = Wells.of(people(3, four) + "night;behind 2;");
        two.days(1);
        falls("behind 2: in the same order", two, 2, 1, 0, 1);
        WellQueue middle = Wells.of(people(3, four) + "night;middle;");
        middle.days(1);
        falls("middle: of 1 2 1, 2 1 0, 1 0 1, 0 1 2", middle, 1, 1, 1, 1);
        WellQueue one = Wells.of(people(3, "2 0 0 0") + "night;behind 2;");
        one.days(1);
        falls("none ahead of the first of these", one, -1);
        WellQueue pair = Wells.of(people(3, "2 0 0 0", "1 0 0 0") + "night;middle;");
        pair.days(5);
        falls("two stood there: the third is missing; behind the first one it isn't", pair, -1, 2);
        WellQueue few = Wells.of(people(3, "2 0 0 0", "1 0 0 0", "0 0 0 0") + "night;middle;");
        few.days(1);
        few.leave(0);
        few.leave(1);
        falls("three stood there: enough for one", few, 1);
        WellQueue less = Wells.of(people(3, "2 0 0 0", "1 0 0 0") + "night;behind 2;");
        less.leave(1);
        less.days(1);
        less.join(1);
        falls("one stood there: behind 2 the second gets it", less, -1, 2);
        WellQueue without = Wells.of(people(3, four));
        without.days(1);
        falls("without night", without, -1, 0, 1, 2);
    }

    private static void latestDay() {
        WellQueue x = Wells.of(people(3, "0 0 0 0", "1 0 0 0", "2 0 0 0") + "night;");
        x.days(1);
        x.ask(2, 0);
        falls("what it ASKED then", x, 2, 0, 1);
        x.days(1);
        falls("the latest DAY", x, 0, 0, 1);
        x.leave(2);
        falls("who was last then, though it left", x, 0, 0);
        x.leave(1);
        x.leave(0);
        x.days(1);
        x.join(0);
        falls("nobody was there on the latest DAY", x, -1);
        WellQueue ring = Wells.of(people(3, "0 0 0 0", "1 0 0 0", "2 0 0 0") + "night;ring;");
        ring.days(1);
        ring.ask(2, 1);
        falls("with ring, as things are", ring, 1, 0, 1);
        ring.ring();
        falls("else with night, as that DAY was", ring, 2, 0, 1);
        WellQueue water = Wells.of(people(2, "0 0 0", "1 0 0") + "night;law good=0 or day>0;");
        water.days(1);
        falls("WATER then, a GOOD now", water, -1, 0);
        WellQueue moved = Wells.of(people(2, "0 0 0", "1 0 0") + "night;");
        moved.days(1);
        moved.move(1, 0);
        falls("as they stood then", moved, 1, 1);
        WellQueue within = Wells.of(people(2, "0 1 6", "1 0 7") + "night;");
        // the first day brings p1 a 0; each later one also p0 a 1, by the night
        Check.due("DAYS of one call follow one another", 12, () -> within.days(3));
        within.undo(1);
        falls("the night is undone", within, -1, 0);
        WellQueue ruins = Wells.of(people(1, "0 0", "0 -5") + "night;ruin 5;");
        ruins.days(1);
        falls("who was RUINED on it stood there, too", ruins, 0);
    }

    // ---- promises 5 to 11

    private static void person() {
        WellQueue x = Wells.of(Wells.THREE);
        for (int p : new int[] {Integer.MIN_VALUE, -1, 3, 8, Integer.MAX_VALUE}) {
            Check.noSuch("5: no PERSON " + p, () -> x.person(p, 0));
            Check.noSuch("5: told first, PERSON " + p, () -> x.person(p, 7));
        }
        for (int what : new int[] {Integer.MIN_VALUE, -1, 7, Integer.MAX_VALUE}) {
            Check.badArgument("5: another what " + what, () -> x.person(0, what));
            Check.badArgument("5: another what of the last PERSON " + what, () -> x.person(2, what));
        }
        x.leave(2);
        Check.badArgument("5: another what of one out of the QUEUE", () -> x.person(2, 7));
        long[] due = {-1, 0, 50, 0, 0, -1, 0};
        for (int what = 0; what < 7; what++) {
            int w = what;
            Check.due("5: out of the QUEUE, what " + what, due[what], () -> x.person(2, w));
        }
        Check.due("5: the last place", 1, () -> x.person(1, 0));
    }

    private static void worth() {
        WellQueue x = Wells.of(Wells.THREE);
        for (int far : FAR) {
            Check.noSuch("6: no PERSON " + far, () -> x.worth(far, 0));
            Check.noSuch("6: no GOOD " + far, () -> x.worth(0, far));
        }
        Check.noSuch("6: no PERSON 3", () -> x.worth(3, 0));
        Check.noSuch("6: no GOOD 2", () -> x.worth(2, 2));
        Check.due("6: the last of both", 1, () -> x.worth(2, 1));
        Wells.tell(x, "goods 2;");
        Check.noSuch("6: GOODS and no PEOPLE", () -> x.worth(0, 0));
        Wells.tell(x, people(1, "0 5"));
        Check.noSuch("6: a GOOD of the well before", () -> x.worth(0, 1));
    }

    private static void likes() {
        WellQueue x = Wells.of(Wells.THREE);
        for (int far : FAR) {
            Check.noSuch("7: no PERSON " + far, () -> x.likes(far, 0));
            Check.noSuch("7: no other PERSON " + far, () -> x.likes(0, far));
            Check.noSuch("7: both one, but no such", () -> x.likes(far, far));
        }
        Check.noSuch("7: no PERSON 3", () -> x.likes(3, 0));
        Check.noSuch("7: no other PERSON 3", () -> x.likes(2, 3));
        for (int p = 0; p < 3; p++) {
            int q = p;
            Check.badArgument("7: both one", () -> x.likes(q, q));
        }
        x.leave(2);
        Check.due("7: out of the QUEUE", 0, () -> x.likes(2, 0));
    }

    private static void at() {
        WellQueue x = Wells.of(Wells.THREE);
        for (int far : FAR) {
            Check.noSuch("8: nobody at " + far, () -> x.at(far));
        }
        Check.due("8: the first place", 0, () -> x.at(0));
        Check.due("8: the last place", 2, () -> x.at(2));
        Check.noSuch("8: behind the last", () -> x.at(3));
        x.leave(0);
        Check.due("8: the last place then", 2, () -> x.at(1));
        Check.noSuch("8: behind the last then", () -> x.at(2));
        x.leave(1);
        x.leave(2);
        Check.noSuch("8: an empty QUEUE", () -> x.at(0));
    }

    private static void allowed() {
        WellQueue x = Wells.of(Wells.THREE + "law good=1;");
        for (int far : FAR) {
            Check.noSuch("9: no PERSON " + far, () -> x.allowed(far, 0));
            Check.noSuch("9: no GOOD " + far, () -> x.allowed(0, far));
        }
        Check.noSuch("9: no PERSON 3", () -> x.allowed(3, 0));
        Check.noSuch("9: no GOOD 2", () -> x.allowed(0, 2));
        x.leave(1);
        Check.badState("9: it isn't in the QUEUE", () -> x.allowed(1, 1));
        Check.noSuch("9: told first: no such GOOD", () -> x.allowed(1, 2));
        Check.due("9: those in it", 1, () -> x.allowed(2, 1) ? 1 : 0);
    }

    private static void today() {
        WellQueue none = new WellQueue();
        Check.due("10: nobody", 0, none::today);
        WellQueue one = Wells.of(people(1, "0 9"));
        Check.due("10: one alone", 0, one::today);
        WellQueue least = Wells.of(people(1, "0 -99", "0 -99", "0 -99", "0 -99", "0 -99", "0 -99", "0 -99", "0 -99") + "ring;");
        Check.due("10: the least of all", -792, least::today);
        WellQueue most = Wells.of(people(1, "0 99", "0 99", "0 99", "0 99", "0 99", "0 99", "0 99", "0 99") + "ring;");
        Check.due("10: the most of all", 792, most::today);
        most.leave(7);
        Check.due("10: one less", 693, most::today);
    }

    private static void liking() {
        WellQueue x = Wells.of(Wells.THREE + "likes 0 1 9;likes 0 2 -9;");
        for (int far : FAR) {
            Check.noSuch("11: no PERSON " + far, () -> x.liking(far));
        }
        Check.noSuch("11: no PERSON 3", () -> x.liking(3));
        Check.due("11: 9 times 2 less 9 times 1", 9, () -> x.liking(0));
        x.leave(1);
        Check.badState("11: it isn't in the QUEUE", () -> x.liking(1));
        Check.due("11: nothing falls to who is out of it: -9 times -4", 36, () -> x.liking(0));
        WellQueue ring = Wells.of(Wells.THREE + "ring;likes 1 0 3;likes 2 0 -2;");
        Check.due("11: what FALLS to the first one: 2 and 3 times 5", 17, () -> ring.liking(1));
        Check.due("11: the last one's: 1 less 2 times 5", -9, () -> ring.liking(2));
        x.leave(2);
        Check.due("11: one alone", 0, () -> x.liking(0));
        x.ring();
        Check.due("11: one alone round a ring", 5, () -> x.liking(0));
    }
}
