import java.util.NoSuchElementException;

/** Promises 43 to 48: tray, write, pour, image, restore, count. */
final class TraysTest {
    private TraysTest() {
    }

    public static void main(String[] args) {
        tray();
        write();
        pour();
        images();
        imagesKeepDeeds();
        imagesKeepWells();
        count();
        Check.end();
    }

    private static void tray() {
        WellQueue x = new WellQueue();
        Check.refused("tray -1", NoSuchElementException.class, () -> x.tray(-1, 9, 0));
        Check.refused("tray 4", NoSuchElementException.class, () -> x.tray(4, 0, 99));
        Check.refused("sort -1", IllegalArgumentException.class, () -> x.tray(0, -1, 1));
        Check.refused("sort 4", IllegalArgumentException.class, () -> x.tray(0, 4, 1));
        Check.refused("-1 numbers", IllegalArgumentException.class, () -> x.tray(0, 0, -1));
        Check.refused("31 numbers", IllegalArgumentException.class, () -> x.tray(0, 0, 31));
        Check.refused("it is still missing", IllegalStateException.class, () -> x.write(0, 0, 0));
        x.tray(3, 3, 30);
        Check.due("the last place", 5, () -> x.write(3, 29, 5));
        Check.refused("behind it", IndexOutOfBoundsException.class, () -> x.write(3, 30, 5));
        WellQueue y = Wells.of(Wells.THREE);
        Wells.fill(y, 0, -1, -1, 102);
        y.tray(0, 3, 3);
        Check.due("a row of 0s again: p0 asks 0", 0, () -> {
            y.ask(0, 1);
            y.perform(0);
            return y.person(0, 1);
        });
    }

    private static void write() {
        WellQueue x = new WellQueue();
        long[] numbers = {0, 1, -1, 127, 128, 255, 256, -129, 32767, 32768, -32769, 65536, 2147483647L, 2147483648L,
            -2147483649L, 4294967295L, Long.MAX_VALUE, Long.MIN_VALUE};
        for (int sort = 0; sort < 4; sort++) {
            x.tray(sort, sort, 1);
            for (long number : numbers) {
                long due = sort == 0 ? (byte) number : sort == 1 ? (short) number : sort == 2 ? (int) number : number;
                int tray = sort;
                Check.due(number + " in sort " + sort, due, () -> x.write(tray, 0, number));
            }
        }
        Check.refused("at -1", IndexOutOfBoundsException.class, () -> x.write(0, -1, 0));
        Check.refused("at 1", IndexOutOfBoundsException.class, () -> x.write(0, 1, 0));
        x.tray(0, 0, 0);
        Check.refused("at 0 of none", IndexOutOfBoundsException.class, () -> x.write(0, 0, 0));
        Check.refused("no such tray", NoSuchElementException.class, () -> x.write(4, 0, 0));
        WellQueue y = new WellQueue();
        Check.refused("missing", IllegalStateException.class, () -> y.write(1, -1, 0));
        // cut to 8 bits 257 is 1: p0 asks 1
        WellQueue z = Wells.of(Wells.THREE);
        z.tray(0, 0, 1);
        z.write(0, 0, 257);
        Check.due("what is cut is what is there", 1, () -> z.perform(0));
        Check.due("p0 asks 1", 1, () -> z.person(0, 1));
    }

    private static void pour() {
        WellQueue x = Wells.of(Wells.THREE);
        Wells.fill(x, 0, -1, -1, -1);
        Check.due("pour(0)", 3, () -> x.pour(0));
        Check.due("as it came: water, 0, 1", 2, () -> x.secrets(0));
        Check.due("p0 asked 0", 0, () -> x.sure(0, 0));
        Check.due("p1 asked 1", 1, () -> x.sure(0, 1));
        x.tray(1, 0, 2);
        Check.due("as many as it has", 2, () -> x.pour(1));
        Wells.fill(x, 2, 7, 7, 7, 1, -1);
        Check.due("as many as stand there", 3, () -> x.pour(2));
        // water is -2 there, which is no told deed
        Check.due("the first is -2", 0, () -> x.judge(2, 0));
        x.write(2, 0, 0);
        Check.due("the others are deeds", -1, () -> x.judge(2, 0));
        Check.due("the rest stays: a day at the end", 5, () -> x.perform(2));
        Check.due("that day", 1, () -> x.count(4));
        Check.refused("missing", IllegalStateException.class, () -> x.pour(3));
        Check.refused("no such tray", NoSuchElementException.class, () -> x.pour(4));
    }

    private static void images() {
        WellQueue x = Wells.of(Wells.THREE);
        Check.refused("image(-1)", NoSuchElementException.class, () -> x.image(-1));
        Check.refused("image(3)", NoSuchElementException.class, () -> x.image(3));
        Check.refused("restore(3)", NoSuchElementException.class, () -> x.restore(3));
        Check.refused("restore(-1)", NoSuchElementException.class, () -> x.restore(-1));
        Check.refused("none was made", IllegalStateException.class, () -> x.restore(2));
        x.image(2);
        x.days(2);
        x.ring();
        x.leave(1);
        x.image(0);
        x.restore(2);
        Check.due("day", 0, () -> x.count(4));
        Check.due("queue", 3, () -> x.count(3));
        Check.due("ring", 0, () -> x.count(6));
        Check.due("deeds", 0, () -> x.count(10));
        Check.due("totals", 0, () -> x.count(9));
        Check.due("best of then", 7, () -> x.best(0));
        x.restore(0);
        Check.due("best of the other one: 2 0 round the ring", 1, () -> x.best(0));
        Check.due("the other one's day", 2, () -> x.count(4));
        Check.due("the other one's queue", 2, () -> x.count(3));
        Check.due("the other one's ring", 1, () -> x.count(6));
        Check.refused("the third was not made", IllegalStateException.class, () -> x.restore(1));
    }

    private static void imagesKeepDeeds() {
        WellQueue x = Wells.of(Wells.THREE);
        x.ask(0, 1);
        x.ask(1, 0);
        x.image(1);
        x.undo(2);
        x.leave(0);
        x.restore(1);
        Check.due("two deeds", 2, () -> x.count(10));
        Check.due("undo them", 0, () -> x.undo(2));
        Check.due("p0 asks", 0, () -> x.person(0, 1));
        Check.due("p1 asks", 1, () -> x.person(1, 1));
        x.restore(1);
        Check.due("an image stays", 1, () -> x.person(0, 1));
        for (int i = 0; i < 14; i++) {
            x.days(1);
        }
        x.image(0);
        x.undo(12);
        x.restore(0);
        Check.due("undo all of it", 0, () -> x.undo(12));
        Check.due("the eldest kept", 2, () -> x.count(4));
        for (int i = 0; i < 12; i++) {
            x.ring();
        }
        x.restore(0);
        for (int day = 13; day >= 2; day--) {
            int then = day;
            x.undo(1);
            Check.due("each deed of the image: " + day, then, () -> x.count(4));
        }
    }

    private static void imagesKeepWells() {
        WellQueue x = Wells.of(Wells.THREE + "law good=0;apart 0 1;likes 0 1 3;ruin 7;night;middle;");
        x.image(0);
        Wells.tell(x, "goods 5;");
        Wells.tell(x, "goods 9;");
        Wells.fill(x, 0, 1, 2);
        Wells.feed(x, "goods 1;");
        x.restore(0);
        Check.due("lines", 10, () -> x.count(0));
        Check.due("goods", 2, () -> x.count(1));
        Check.due("people", 3, () -> x.count(2));
        Check.due("way", 3, () -> x.count(5));
        Check.due("ruin", 7, () -> x.count(7));
        Check.due("gold", 14, () -> x.count(8));
        Check.due("night", 1, () -> x.count(12));
        Check.due("likes", 3, () -> x.likes(0, 1));
        Check.due("worth", 7, () -> x.worth(1, 1));
        Check.due("law", 0, () -> x.person(1, 6));
        Check.due("apart", 2, () -> x.orders(-999));
        Check.due("the tape stays", 20, () -> x.count(11));
        Check.due("the fault stays", 3, () -> x.fault(0));
        Check.due("trays stay", 2, () -> x.pour(0));
    }

    private static void count() {
        WellQueue x = Wells.of(Wells.THREE + "ruin 20;night;behind 2;");
        Wells.feed(x, "x");
        // -4 to p2, then twice by night -3 to p0, 2 to p1, -4 to p2
        x.days(3);
        x.leave(2);
        long[] due = {7, 2, 3, 2, 3, 2, 0, 20, 14, -14, 2, 20, 1};
        for (int what = 0; what < due.length; what++) {
            int w = what;
            Check.due("count(" + what + ")", due[what], () -> x.count(w));
        }
        Check.due("count(-1)", -1, () -> x.count(-1));
        Check.due("count(13)", -1, () -> x.count(13));
    }
}
