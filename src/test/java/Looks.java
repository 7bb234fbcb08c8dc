import java.util.NoSuchElementException;

/** All that can be seen of a WellQueue, as a text, so that two can be compared. */
final class Looks {
    private Looks() {
    }

    /** What it tells without changing. */
    static String at(WellQueue x) {
        StringBuilder text = new StringBuilder("count");
        for (int what = 0; what <= 12; what++) {
            text.append(' ').append(x.count(what));
        }
        text.append(" fault ").append(x.fault(0)).append(' ').append(x.fault(1)).append(" queue");
        for (int place = 0; place < x.count(3); place++) {
            text.append(' ').append(x.at(place));
        }
        for (int p = 0; p < x.count(2); p++) {
            text.append(" | ").append(p).append(':');
            for (int what = 1; what <= 6; what++) {
                text.append(' ').append(x.person(p, what));
            }
        }
        return text.append(" today ").append(x.today()).toString();
    }

    /** What the TRAYS tell of their numbers, if they are taken as TOLD DEEDS; it makes these. */
    static String trays(WellQueue x) {
        StringBuilder text = new StringBuilder();
        for (int tray = 0; tray < 4; tray++) {
            int made;
            try {
                made = x.perform(tray);
            } catch (IllegalStateException e) {
                made = -9;
            }
            text.append(" tray ").append(tray).append(" made ").append(made);
        }
        return text.append(' ').append(at(x)).toString();
    }

    /** What each IMAGE has; it restores these. */
    static String images(WellQueue x) {
        StringBuilder text = new StringBuilder();
        for (int i = 0; i < 3; i++) {
            text.append(" image ").append(i).append(": ");
            try {
                x.restore(i);
                text.append(at(x));
            } catch (IllegalStateException | NoSuchElementException e) {
                text.append("none");
            }
        }
        return text.toString();
    }

    /** All of it: as it is, with each DEED undone, with the TRAYS' deeds made, the tape told, and the IMAGES. */
    static String whole(WellQueue x) {
        StringBuilder text = new StringBuilder(at(x));
        text.append(trays(x));
        int taped = x.count(11);
        while (x.count(10) > 0) {
            x.undo(1);
            text.append(" undone ").append(x.count(3)).append(x.count(4)).append(x.count(8)).append(x.today());
        }
        text.append(at(x)).append(images(x));
        return text.append(" tape ").append(x.well(taped)).append(' ').append(x.fault(1)).toString();
    }
}
