/** The boundary cases of promises 37 to 48: ruins, other ways, secrets, trays, images, counts. */
final class RestBoundsTest {
    private static final int[] FAR = {Integer.MIN_VALUE, -1, 3, Integer.MAX_VALUE};
    private static final int[] NO_TRAY = {Integer.MIN_VALUE, -1, 4, Integer.MAX_VALUE};
    private static final int[] NO_IMAGE = {Integer.MIN_VALUE, -1, 3, Integer.MAX_VALUE};

    private RestBoundsTest() {
    }

    public static void main(String[] args) {
        ruinedRefused();
        ruined();
        firstRuined();
        by();
        bestWay();
        secretsRefused();
        secretsNumbers();
        secretsWays();
        sure();
        tray();
        writeRefused();
        writeCut();
        pour();
        images();
        imagesStay();
        count();
        countLimits();
        Check.end();
    }

    private static String two(int worth) {
        return "goods 1;person age 0 gold 0 asks 0 worth 0;person age 0 gold 0 asks 0 worth " + worth + ";";
    }

    // ---- promises 37 and 38

    private static void ruinedRefused() {
        WellQueue x = Wells.of(Wells.THREE + "ruin 1;");
        for (int far : FAR) {
            Check.noSuch("37: no PERSON " + far, () -> x.ruined(far));
        }
        x.leave(2);
        Check.badState("37: it isn't in the QUEUE", () -> x.ruined(2));
    }

    private static void ruined() {
        WellQueue first = Wells.of(two(-5) + "ruin 5;");
        Check.due("37: in 1 DAY", 1, () -> first.ruined(1));
        Check.due("37: nothing is done", 2, () -> first.count(3));
        WellQueue least = Wells.of(two(-1) + "ruin 1;");
        Check.due("37: ruin 1", 1, () -> least.ruined(1));
        Check.due("38: ruin 1", 1, least::firstRuined);
        WellQueue second = Wells.of(two(-5) + "ruin 6;");
        Check.due("37: in 2 DAYS", 2, () -> second.ruined(1));
        WellQueue last = Wells.of(two(-1) + "ruin 99;");
        Check.due("37: in 99 DAYS", 99, () -> last.ruined(1));
        last.days(1);
        Check.due("37: in 98 DAYS from DAY 1 on", 98, () -> last.ruined(1));
        WellQueue never = Wells.of(two(-1) + "ruin 100;");
        Check.due("37: not in these", -1, () -> never.ruined(1));
        never.days(1);
        Check.due("37: in these from DAY 1 on", 99, () -> never.ruined(1));
        WellQueue none = Wells.of(two(-99));
        Check.due("37: no ruin", -1, () -> none.ruined(1));
        WellQueue again = Wells.of(two(-5) + "ruin 5;");
        again.days(1);
        again.join(1);
        again.leave(0);
        Check.due("37: its TOTAL is there already, WATER FALLS", 1, () -> again.ruined(1));
        WellQueue gain = Wells.of(two(5) + "ruin 1;");
        Check.due("37: above 0", -1, () -> gain.ruined(1));
    }

    private static void firstRuined() {
        WellQueue nobody = new WellQueue();
        Check.due("38: no PEOPLE", -1, nobody::firstRuined);
        WellQueue none = Wells.of(two(-99));
        Check.due("38: no ruin", -1, none::firstRuined);
        WellQueue last = Wells.of(two(-1) + "ruin 99;");
        Check.due("38: on the 99th DAY", 1, last::firstRuined);
        WellQueue never = Wells.of(two(-1) + "ruin 100;");
        Check.due("38: nobody in 99 DAYS", -1, never::firstRuined);
        WellQueue like = Wells.of("goods 1;ring;ruin 4;" + "person age 0 gold 0 asks 0 worth -2;".repeat(4));
        Check.due("38: of like ones the first PERSON", 0, like::firstRuined);
        like.move(0, 3);
        Check.due("38: the first PERSON, not the first place", 0, like::firstRuined);
        like.leave(0);
        Check.due("38: of those in the QUEUE", 1, like::firstRuined);
        like.leave(1);
        like.leave(2);
        like.leave(3);
        Check.due("38: an empty QUEUE", -1, like::firstRuined);
        WellQueue later = Wells.of("goods 1;ring;ruin 6;person age 0 gold 0 asks 0 worth -2;"
                + "person age 0 gold 0 asks 0 worth -3;");
        Check.due("38: first by DAYS", 1, later::firstRuined);
    }

    // ---- promises 39 and 40

    private static void by() {
        WellQueue x = Wells.of(Wells.THREE + "middle;");
        for (int way : new int[] {Integer.MIN_VALUE, -1, 0, 4, Integer.MAX_VALUE}) {
            Check.badArgument("39: another way " + way, () -> x.by(way));
        }
        Check.due("39: behind 1", 3, () -> x.by(1));
        Check.due("39: behind 2", -4, () -> x.by(2));
        Check.due("39: middle", 0, () -> x.by(3));
        Check.due("39: the way stays", 3, () -> x.count(5));
        WellQueue nobody = new WellQueue();
        Check.due("39: nobody", 0, () -> nobody.by(3));
    }

    private static void bestWay() {
        WellQueue nobody = new WellQueue();
        Check.due("40: nobody: the first", 1, nobody::bestWay);
        WellQueue like = Wells.of(two(0) + "middle;");
        Check.due("40: of like ones the first", 1, like::bestWay);
        WellQueue third = Wells.of("goods 1;" + "person age 0 gold 0 asks 0 worth -1;".repeat(4));
        Check.due("40: -3, -2, -1", 3, third::bestWay);
        third.leave(0);
        Check.due("40: -2, -1, 0", 3, third::bestWay);
        WellQueue second = Wells.of("goods 1;person age 0 gold 0 asks 0 worth 0;person age 0 gold 0 asks 0 worth -1;"
                + "person age 0 gold 0 asks 0 worth 0;");
        Check.due("40: -1, 0, 0: the first of like ones", 2, second::bestWay);
    }

    // ---- promises 41 and 42

    private static void secretsRefused() {
        WellQueue x = Wells.of(Wells.THREE);
        for (int tray : NO_TRAY) {
            Check.noSuch("41: no TRAY " + tray, () -> x.secrets(tray));
            Check.noSuch("42: no TRAY " + tray, () -> x.sure(tray, 0));
            Check.noSuch("42: told first " + tray, () -> x.sure(tray, 3));
        }
        Check.badState("41: it is MISSING", () -> x.secrets(0));
        Check.badState("42: it is MISSING", () -> x.sure(0, 0));
        Check.badState("42: told first: it is MISSING", () -> x.sure(0, 3));
        for (int many : new int[] {0, 1, 2, 4, 30}) {
            x.tray(0, 3, many);
            Check.badArgument("41: not so many, " + many, () -> x.secrets(0));
            Check.badArgument("42: not so many, " + many, () -> x.sure(0, 0));
        }
        x.tray(0, 3, 3);
        Check.due("41: as many as stand in the QUEUE", 0, () -> x.secrets(0));
        for (int place : FAR) {
            Check.badArgument("42: the place " + place, () -> x.sure(0, place));
        }
        x.leave(1);
        Check.badArgument("41: two stand there then", () -> x.secrets(0));
        Wells.fill(x, 0, -1, -1);
        Check.badArgument("42: a place that was", () -> x.sure(0, 2));
    }

    private static void secretsNumbers() {
        WellQueue x = Wells.of(Wells.THREE);
        for (long none : new long[] {Long.MIN_VALUE, -4294967298L, -3, 2, 3, 4294967295L, 4294967296L, Long.MAX_VALUE}) {
            for (int place = 0; place < 3; place++) {
                Wells.fill(x, 0, -1, -1, -1);
                x.write(0, place, none);
                Check.badArgument("41: none such " + none, () -> x.secrets(0));
                Check.badArgument("42: none such " + none, () -> x.sure(0, 1));
            }
        }
        for (int fine : new int[] {-2, -1, 0, 1}) {
            Wells.fill(x, 0, -1, -1, fine);
            Check.due("41: such a number " + fine, fine == -1 ? 8 : fine < 0 ? 0 : 4, () -> x.secrets(0));
        }
        x.tray(0, 0, 3);
        x.write(0, 0, 254);
        x.write(0, 1, 255);
        x.write(0, 2, 257);
        Check.due("41: cut to 8 bits: WATER, not told, 1", 4, () -> x.secrets(0));
    }

    private static void secretsWays() {
        WellQueue nobody = new WellQueue();
        nobody.tray(0, 0, 0);
        Check.due("41: nobody: one way", 1, () -> nobody.secrets(0));
        Check.badArgument("42: nobody: no place", () -> nobody.sure(0, 0));
        String person = "person age 1 gold 0 asks 0 worth 0 0 0 0 0 0;";
        WellQueue eight = Wells.of("goods 6;" + person.repeat(8));
        Wells.fill(eight, 0, -1, -1, -1, -1, -1, -1, -1, -1);
        Check.due("41: nothing told: 6 to the 8th", 1679616, () -> eight.secrets(0));
        eight.ring();
        Check.due("41: nor round a ring", 1679616, () -> eight.secrets(0));
        Wells.fill(eight, 0, 5, 4, 3, 2, 1, 0, 5, 4);
        Check.due("41: all told round a ring", 1, () -> eight.secrets(0));
        eight.ring();
        Check.due("41: nothing FALLS to the first one", 0, () -> eight.secrets(0));
        eight.write(0, 0, -2);
        Check.due("41: WATER FALLS to it; the last one ASKS as it likes", 6, () -> eight.secrets(0));
        WellQueue none = Wells.of(Wells.THREE + "law place=1;");
        Wells.fill(none, 0, -2, -2, -1);
        Check.due("41: whoever may ASK none ASKS WATER", 2, () -> none.secrets(0));
        Wells.fill(none, 0, -2, 0, -1);
        Check.due("41: no GOOD comes of it", 0, () -> none.secrets(0));
        Wells.fill(none, 0, -2, -2, -2);
        Check.due("41: who may ASK does", 0, () -> none.secrets(0));
    }

    private static void sure() {
        WellQueue x = Wells.of(Wells.THREE);
        Wells.fill(x, 0, -2, 0, 1);
        Check.due("42: the first place", 0, () -> x.sure(0, 0));
        Check.due("42: the second place", 1, () -> x.sure(0, 1));
        Check.due("42: unlike ones", -1, () -> x.sure(0, 2));
        Wells.fill(x, 0, 0, 0, 1);
        Check.due("42: there are none", -1, () -> x.sure(0, 1));
        WellQueue water = Wells.of(Wells.THREE + "law place=1 and good=1;");
        Wells.fill(water, 0, -1, -1, -1);
        Check.due("42: WATER", -1, () -> water.sure(0, 0));
        Check.due("42: the only one it may", 1, () -> water.sure(0, 1));
        Check.due("42: WATER of the last one", -1, () -> water.sure(0, 2));
        WellQueue one = Wells.of(two(0));
        Wells.fill(one, 0, -1, -1);
        Check.due("42: there is one GOOD alone", 0, () -> one.sure(0, 1));
        WellQueue last = Wells.of("goods 6;ring;person age 1 gold 0 asks 0 worth 0 0 0 0 0 0;");
        Wells.fill(last, 0, 5);
        Check.due("42: the last GOOD", 5, () -> last.sure(0, 0));
    }

    // ---- promises 43 to 45

    private static void tray() {
        WellQueue x = Wells.of(Wells.THREE);
        for (int tray : NO_TRAY) {
            Check.noSuch("43: no TRAY " + tray, () -> x.tray(tray, 0, 0));
            Check.noSuch("43: told first " + tray, () -> x.tray(tray, 4, 31));
        }
        for (int sort : new int[] {Integer.MIN_VALUE, -1, 4, Integer.MAX_VALUE}) {
            Check.badArgument("43: no such sort " + sort, () -> x.tray(0, sort, 1));
        }
        for (int many : new int[] {Integer.MIN_VALUE, -1, 31, Integer.MAX_VALUE}) {
            Check.badArgument("43: not so many " + many, () -> x.tray(0, 0, many));
        }
        Check.badState("43: it is MISSING still", () -> x.judge(0, 0));
        for (int tray = 0; tray < 4; tray++) {
            int t = tray;
            x.tray(t, t, 30);
            Check.due("43: the 30th place of TRAY " + t, -7, () -> x.write(t, 29, -7));
            Check.due("43: 0s ahead of it: p0 ASKS 0", 29, () -> x.judge(t, 0));
            x.tray(t, 3 - t, 1);
            Check.refused("43: fewer places", IndexOutOfBoundsException.class, () -> x.write(t, 1, 0));
            x.tray(t, 3 - t, 30);
            Check.due("43: 0s again", -1, () -> x.judge(t, 0));
            Check.due("43: another sort", t == 0 ? 1L << 40 : 0, () -> x.write(t, 0, 1L << 40));
            x.tray(t, 0, 0);
            Check.refused("43: no place", IndexOutOfBoundsException.class, () -> x.write(t, 0, 0));
            Check.due("43: no numbers, but not MISSING", 0, () -> x.perform(t));
        }
        Check.badArgument("43: a call that throws", () -> x.tray(0, 0, 31));
        Check.due("43: changes nothing", 0, () -> x.perform(0));
    }

    private static void writeRefused() {
        WellQueue x = new WellQueue();
        for (int tray : NO_TRAY) {
            Check.noSuch("44: no TRAY " + tray, () -> x.write(tray, 0, 0));
            Check.noSuch("44: told first " + tray, () -> x.write(tray, -1, 0));
        }
        Check.badState("44: it is MISSING", () -> x.write(2, 0, 0));
        Check.badState("44: told first: it is MISSING", () -> x.write(2, 30, 0));
        x.tray(2, 1, 5);
        for (int place : new int[] {Integer.MIN_VALUE, -1, 5, 29, 30, Integer.MAX_VALUE}) {
            Check.refused("44: no such place " + place, IndexOutOfBoundsException.class, () -> x.write(2, place, 0));
        }
        Check.due("44: the first place", 1, () -> x.write(2, 0, 1));
        Check.due("44: the last place", 2, () -> x.write(2, 4, 2));
        Check.badState("44: the others are MISSING", () -> x.write(1, 0, 0));
    }

    private static void cut(int sort, long number, long due) {
        WellQueue x = new WellQueue();
        x.tray(0, sort, 1);
        Check.due("44: " + number + " cut to sort " + sort, due, () -> x.write(0, 0, number));
    }

    private static void writeCut() {
        long[] tops = {1L << 7, 1L << 15, 1L << 31};
        for (int sort = 0; sort < 3; sort++) {
            long top = tops[sort];
            cut(sort, top - 1, top - 1);
            cut(sort, top, -top);
            cut(sort, top + 1, -top + 1);
            cut(sort, -top, -top);
            cut(sort, -top - 1, top - 1);
            cut(sort, 2 * top - 1, -1);
            cut(sort, 2 * top, 0);
            cut(sort, 2 * top + 1, 1);
            cut(sort, -2 * top, 0);
            cut(sort, Long.MAX_VALUE, -1);
            cut(sort, Long.MIN_VALUE, 0);
        }
        cut(3, Long.MAX_VALUE, Long.MAX_VALUE);
        cut(3, Long.MIN_VALUE, Long.MIN_VALUE);
        cut(3, -1, -1);
        cut(3, 0, 0);
    }

    private static void pour() {
        WellQueue x = Wells.of(Wells.THREE);
        for (int tray : NO_TRAY) {
            Check.noSuch("45: no TRAY " + tray, () -> x.pour(tray));
        }
        Check.badState("45: it is MISSING", () -> x.pour(0));
        x.tray(0, 0, 0);
        Check.due("45: a TRAY of no places", 0, () -> x.pour(0));
        x.tray(0, 0, 2);
        Check.due("45: as many as it has places", 2, () -> x.pour(0));
        x.tray(0, 0, 3);
        Check.due("45: just as many", 3, () -> x.pour(0));
        Check.due("45: WATER, 0, 1", 0, () -> x.sure(0, 0));
        Check.due("45: WATER, 0, 1 again", 1, () -> x.sure(0, 1));
        Check.due("45: WATER is -2: no TOLD DEED", 0, () -> x.judge(0, 0));
        Wells.fill(x, 1, -1, -1, -1, -1, -1);
        Check.due("45: more places than people", 3, () -> x.pour(1));
        x.write(1, 0, -1);
        // a DAY of 3, then p0 ASKS 0, then 1, then the two DAYS that stayed, of 8 each
        Check.due("45: the places behind stay", 19, () -> x.judge(1, 2));
        WellQueue nobody = new WellQueue();
        nobody.tray(3, 2, 30);
        Check.due("45: nobody", 0, () -> nobody.pour(3));
        String person = "person age 1 gold 0 asks 5 worth 0 0 0 0 0 0;";
        WellQueue eight = Wells.of("goods 6;ring;" + person.repeat(8));
        eight.tray(0, 0, 30);
        Check.due("45: eight", 8, () -> eight.pour(0));
        eight.tray(0, 0, 8);
        eight.pour(0);
        Check.due("45: the last GOOD to each", 1, () -> eight.secrets(0));
    }

    // ---- promises 46 and 47

    private static void images() {
        WellQueue x = Wells.of(Wells.THREE);
        for (int i : NO_IMAGE) {
            Check.noSuch("46: no IMAGE " + i, () -> x.image(i));
            Check.noSuch("47: no IMAGE " + i, () -> x.restore(i));
        }
        for (int i = 0; i < 3; i++) {
            int image = i;
            Check.badState("47: none was made, " + i, () -> x.restore(image));
        }
        x.days(1);
        x.image(2);
        Check.badState("47: none was made of 0", () -> x.restore(0));
        Check.badState("47: none was made of 1", () -> x.restore(1));
        x.days(1);
        x.image(0);
        x.days(1);
        x.restore(2);
        Check.due("47: IMAGE 2", 1, () -> x.count(4));
        x.restore(0);
        Check.due("47: IMAGE 0", 2, () -> x.count(4));
        x.days(5);
        x.image(2);
        x.restore(0);
        x.restore(2);
        Check.due("46: an IMAGE made again", 7, () -> x.count(4));
        WellQueue full = Wells.of(Wells.THREE);
        for (int i = 0; i < 14; i++) {
            full.days(1);
        }
        full.image(0);
        for (int i = 0; i < 3; i++) {
            full.days(1);
        }
        full.restore(0);
        for (int day = 13; day >= 2; day--) {
            int then = day;
            full.undo(1);
            Check.due("47: each DEED of an IMAGE with forgotten ones, DAY " + day, then, () -> full.count(4));
        }
        Check.badArgument("47: no more of them", () -> full.undo(1));
        WellQueue nobody = new WellQueue();
        nobody.image(1);
        Wells.tell(nobody, Wells.THREE);
        nobody.restore(1);
        Check.due("47: an IMAGE of nothing: no GOODS", 0, () -> nobody.count(1));
        Check.due("47: an IMAGE of nothing: no LINES", 0, () -> nobody.count(0));
        Check.noSuch("47: an IMAGE of nothing: no PEOPLE", () -> nobody.person(0, 0));
    }

    private static void imagesStay() {
        WellQueue x = Wells.of(Wells.THREE + "night;law day<5;");
        x.leave(0);
        x.days(1);
        x.image(0);
        String then = Looks.at(x);
        x.join(0);
        x.undo(2);
        x.ask(1, 0);
        x.ring();
        x.restore(0);
        Check.same("47: all is as in the IMAGE", then, Looks.at(x));
        Check.due("47: its DEEDS can be UNDONE", 0, () -> x.undo(2));
        Check.due("47: as ahead of them", 0, () -> x.at(0));
        x.restore(0);
        Check.same("47: the IMAGE itself stays", then, Looks.at(x));
        Wells.tell(x, "goods 1;");
        Wells.tell(x, "goods");
        Wells.feed(x, "x");
        Wells.fill(x, 1, 1, -1);
        x.restore(0);
        Check.due("47: but the tape", 20, () -> x.count(11));
        Check.due("47: but the FAULT", 2, () -> x.fault(0));
        Check.due("47: but its place", 5, () -> x.fault(1));
        Check.due("47: but the TRAYS", 1, () -> x.judge(1, 1) == 2 ? 1 : 0);
        Check.due("47: the well of then", 2, () -> x.count(1));
        Check.due("47: the law of then", 1, () -> x.allowed(1, 0) ? 1 : 0);
        x.days(4);
        Check.due("47: that law on DAY 5", 0, () -> x.allowed(1, 0) ? 1 : 0);
    }

    // ---- promise 48

    private static void count() {
        WellQueue x = Wells.of(Wells.THREE);
        for (int what : new int[] {Integer.MIN_VALUE, -2, -1, 13, 14, Integer.MAX_VALUE}) {
            Check.due("48: NONE for " + what, -1, () -> x.count(what));
        }
        long[] fresh = {0, 0, 0, 0, 0, 1, 0, 0, 0, 0, 0, 0, 0};
        WellQueue nobody = new WellQueue();
        for (int what = 0; what < fresh.length; what++) {
            int w = what;
            Check.due("48: of a new object " + what, fresh[what], () -> nobody.count(w));
        }
    }

    private static void countLimits() {
        StringBuilder text = new StringBuilder("goods 6;ring;night;middle;ruin 999;");
        text.append("person age 99 gold 999 asks 5 worth 99 99 99 99 99 99;".repeat(8));
        WellQueue x = Wells.of(text.toString());
        long[] due = {13, 6, 8, 8, 0, 3, 1, 999, 7992, 0, 0, 0, 1};
        for (int what = 0; what < due.length; what++) {
            int w = what;
            Check.due("48: as much as there can be, " + what, due[what], () -> x.count(w));
        }
        for (int i = 0; i < 13; i++) {
            x.days(60);
        }
        Check.due("48: DAY", 780, () -> x.count(4));
        Check.due("48: what all TOTALS make", 780L * 8 * 99, () -> x.count(9));
        Check.due("48: DEEDS that can be UNDONE", 12, () -> x.count(10));
        x.leave(0);
        Check.due("48: all gold, of those out of the QUEUE, too", 7992, () -> x.count(8));
        Check.due("48: all TOTALS, of those out of the QUEUE, too", 780L * 8 * 99, () -> x.count(9));
        Check.due("48: those in the QUEUE", 7, () -> x.count(3));
        Check.due("48: PEOPLE", 8, () -> x.count(2));
    }
}
