import java.nio.charset.StandardCharsets;

/** Brings texts to a WellQueue. */
final class Wells {
    /** Three people; each has a hand-counted answer in many tests. */
    static final String THREE = "goods 2;"
            + "person age 30 gold 10 asks 0 worth 5 -3;"
            + "person age 40 gold 4 asks 1 worth 2 7;"
            + "person age 50 gold 0 asks 0 worth -4 1;";

    private Wells() {
    }

    /** Feeds a text, filled up with blanks: how many bytes are on the tape then. */
    static int feed(WellQueue x, String text) {
        byte[] bytes = text.getBytes(StandardCharsets.ISO_8859_1);
        int taped = x.count(11);
        for (int i = 0; i < bytes.length; i += 20) {
            int[] five = new int[5];
            for (int k = 0; k < 20; k++) {
                int sign = i + k < bytes.length ? bytes[i + k] & 255 : 32;
                five[k / 4] = five[k / 4] << 8 | sign;
            }
            taped = x.feed(five[0], five[1], five[2], five[3], five[4]);
        }
        return taped;
    }

    /** What well() answers of a text. */
    static int tell(WellQueue x, String text) {
        feed(x, text);
        return x.well(text.length());
    }

    static WellQueue of(String text) {
        WellQueue x = new WellQueue();
        int lines = tell(x, text);
        if (lines < 0) {
            throw new IllegalStateException("fault " + x.fault(0) + " at " + x.fault(1) + " of " + text);
        }
        return x;
    }

    /** A TRAY of 64 bits with these numbers. */
    static void fill(WellQueue x, int tray, long... numbers) {
        x.tray(tray, 3, numbers.length);
        for (int i = 0; i < numbers.length; i++) {
            x.write(tray, i, numbers[i]);
        }
    }
}
