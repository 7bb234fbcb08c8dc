import java.util.NoSuchElementException;

/** Counts the answers that are not as due. */
final class Check {
    private static int wrong = 0;
    private static int asked = 0;

    private Check() {
    }

    interface Call {
        long answer();
    }

    interface Deed {
        void make();
    }

    static void due(String what, long want, Call call) {
        asked++;
        long got;
        try {
            got = call.answer();
        } catch (RuntimeException e) {
            fail(what + " threw " + e + ", due is " + want);
            return;
        }
        if (got != want) {
            fail(what + " answered " + got + ", due is " + want);
        }
    }

    static void same(String what, String want, String got) {
        asked++;
        if (!got.equals(want)) {
            fail(what + ":\n  got " + got + "\n  due " + want);
        }
    }

    static void refused(String what, Class<? extends RuntimeException> want, Deed deed) {
        asked++;
        try {
            deed.make();
        } catch (RuntimeException e) {
            if (e.getClass() != want) {
                fail(what + " threw " + e + ", due is " + want.getName());
            }
            return;
        }
        fail(what + " threw nothing, due is " + want.getName());
    }

    static void noSuch(String what, Deed deed) {
        refused(what, NoSuchElementException.class, deed);
    }

    static void badState(String what, Deed deed) {
        refused(what, IllegalStateException.class, deed);
    }

    static void badArgument(String what, Deed deed) {
        refused(what, IllegalArgumentException.class, deed);
    }

    static void fail(String text) {
        wrong++;
        System.out.println(text);
    }

    static int wrong() {
        return wrong;
    }

    static void end() {
        System.out.println(wrong == 0 ? asked + " answers, all as due" : wrong + " answers are not as due");
        if (wrong != 0) {
            System.exit(1);
        }
    }
}
