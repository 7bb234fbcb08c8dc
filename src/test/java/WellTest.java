/** Promises 1 to 4: a new object, feed, well, fault. */
final class WellTest {
    private WellTest() {
    }

    public static void main(String[] args) {
        aNewObject();
        feeding();
        telling();
        faultsOfTokens();
        faultsOfPlaces();
        faultsOfNumbers();
        faultsOfTooMany();
        faultsStay();
        Check.end();
    }

    private static void aNewObject() {
        WellQueue x = new WellQueue();
        for (int what = -2; what <= 14; what++) {
            int w = what;
            long want = w == 5 ? 1 : w < 0 || w > 12 ? -1 : 0;
            Check.due("new: count(" + w + ")", want, () -> x.count(w));
        }
        Check.due("new: fault(0)", 0, () -> x.fault(0));
        Check.due("new: fault(1)", -1, () -> x.fault(1));
        for (int tray = 0; tray < 4; tray++) {
            int t = tray;
            Check.refused("new: pour(" + t + ")", IllegalStateException.class, () -> x.pour(t));
        }
        for (int i = 0; i < 3; i++) {
            int image = i;
            Check.refused("new: restore(" + i + ")", IllegalStateException.class, () -> x.restore(image));
        }
        Check.refused("new: well(1)", IllegalArgumentException.class, () -> x.well(1));
        Check.refused("new: undo(1)", IllegalArgumentException.class, () -> x.undo(1));
    }

    private static void feeding() {
        WellQueue x = new WellQueue();
        for (int i = 1; i <= 45; i++) {
            int due = 20 * i;
            Check.due("feed " + i, due, () -> x.feed(0x20202020, 0x20202020, 0x20202020, 0x20202020, 0x20202020));
        }
        Check.due("feed beyond 900", -1, () -> x.feed(0, 0, 0, 0, 0));
        Check.due("count(11) of a full tape", 900, () -> x.count(11));
        Check.refused("well(901)", IllegalArgumentException.class, () -> x.well(901));
        Check.due("900 blanks", -12, () -> x.well(900));
        Check.due("the end is the text's length", 900, () -> x.fault(1));
        Check.due("the tape is empty then", 0, () -> x.count(11));
        // the highest byte of each int comes first
        x.feed(0x676f6f64, 0x7320313b, 0x20202020, 0x20202020, 0x20202020);
        Check.due("bytes by their order", 1, () -> x.well(8));
    }

    private static void telling() {
        WellQueue x = new WellQueue();
        Check.refused("well(-1)", IllegalArgumentException.class, () -> x.well(-1));
        Check.due("lines", 4, () -> Wells.tell(x, Wells.THREE));
        Check.due("count(0)", 4, () -> x.count(0));
        Check.due("count(1)", 2, () -> x.count(1));
        Check.due("count(2)", 3, () -> x.count(2));
        Check.due("count(3)", 3, () -> x.count(3));
        x.days(3);
        x.leave(0);
        Check.due("told anew", 4, () -> Wells.tell(x, Wells.THREE));
        Check.due("no deeds", 0, () -> x.count(10));
        Check.due("no day", 0, () -> x.count(4));
        Check.due("all in the queue", 3, () -> x.count(3));
        Check.due("no totals", 0, () -> x.count(9));
        Check.due("only the first n bytes", 1, () -> {
            Wells.feed(x, "goods 3;goods 2;");
            return x.well(8);
        });
        Check.due("goods of these", 3, () -> x.count(1));
        Check.due("words and numbers need no blanks", 2, () -> Wells.tell(x, "goods1;ruin5;"));
        Check.due("blanks are 10 and 32", 2, () -> Wells.tell(x, "\n goods\n1 ;\n\nring\n;  "));
        Check.due("later ways strike", 5, () -> Wells.tell(x, "goods 1;behind 2;middle;behind 1;middle;"));
        Check.due("count(5)", 3, () -> x.count(5));
        Check.due("later ruins strike", 3, () -> Wells.tell(x, "goods 1;ruin 9;ruin 8;"));
        Check.due("count(7)", 8, () -> x.count(7));
        Wells.tell(x, Wells.THREE + "likes 0 1 - 9;likes 0 1 4;likes 1 0 -0;");
        Check.due("later likes strike", 4, () -> x.likes(0, 1));
        Wells.tell(x, Wells.THREE + "law 1=0;law 1=1;");
        Check.due("later laws strike", 1, () -> x.allowed(0, 0) ? 1 : 0);
    }

    private static void fault(String text, int kind, int place) {
        WellQueue x = new WellQueue();
        Check.due("well of '" + text + "'", -10 - kind, () -> Wells.tell(x, text));
        Check.due("fault(0) of '" + text + "'", kind, () -> x.fault(0));
        Check.due("fault(1) of '" + text + "'", place, () -> x.fault(1));
    }

    private static void faultsOfTokens() {
        fault("Goods 1;", 1, 0);
        fault("goods 1;#", 1, 8);
        fault("goods\t1;", 1, 5);
        fault("goods 1;\r", 1, 8);
        fault("goods 1;\u00e9", 1, 8);
        fault("goods 1;\u0000", 1, 8);
        fault("goods 1;ruin 1000;", 1, 13);
        fault("goods 1;1000", 1, 8);
        fault("goods 7;#", 3, 6);
        fault("goods #", 1, 6);
        fault("goods ; #", 2, 6);
    }

    private static void faultsOfPlaces() {
        fault("", 2, 0);
        fault("good 1;", 2, 0);
        fault("goods", 2, 5);
        fault("goods  ", 2, 7);
        fault("goods 1;;", 2, 8);
        fault("goods 1;ring", 2, 12);
        fault("goods 1;wings;", 2, 8);
        fault("goods 1;ring;goods 1;", 2, 13);
        fault("goods 1;person gold 1 age 1 asks 0 worth 1;", 2, 15);
        fault("goods 2;person age 1 gold 0 asks 0 worth 1;", 2, 42);
        fault("goods 1;person age 1 gold 0 asks 0 worth 1 1;", 2, 43);
        fault("goods 1;person age 1 gold 0 asks 0 worth - -1;", 2, 43);
        fault("goods 1;person age -1 gold 0 asks 0 worth 1;", 2, 19);
        fault("goods 1;law;", 2, 11);
        fault("goods 1;law 1;", 2, 13);
        fault("goods 1;law 1=;", 2, 14);
        fault("goods 1;law 1=1=1;", 2, 15);
        fault("goods 1;law (1=1);", 2, 14);
        fault("goods 1;law [1]=1;", 2, 14);
        fault("goods 1;law [1=1;", 2, 16);
        fault("goods 1;law 1=1];", 2, 15);
        fault("goods 1;law -1=1;", 2, 12);
        fault("goods 1;law 1=1 and;", 2, 19);
        fault("goods 1;law 1=1 or or 1=1;", 2, 19);
        fault("goods 1;law 1+*1=1;", 2, 14);
        fault("goods 1;law goods=1;", 2, 12);
        fault("goods 1;law not;", 2, 15);
    }

    private static void faultsOfNumbers() {
        fault("goods 0;", 3, 6);
        fault("goods 7;", 3, 6);
        fault("goods 1;person age 100 gold 0 asks 0 worth 1;", 3, 19);
        fault("goods 1;person age 1 gold 0 asks 1 worth 1;", 3, 33);
        fault("goods 1;person age 1 gold 0 asks 0 worth 100;", 3, 41);
        fault("goods 1;person age 1 gold 0 asks 0 worth -100;", 3, 42);
        fault("goods 1;apart 0 0;", 3, 14);
        fault(Wells.THREE + "apart 0 0;", 3, Wells.THREE.length() + 8);
        fault(Wells.THREE + "apart 0 3;", 3, Wells.THREE.length() + 8);
        fault(Wells.THREE + "likes 3 0 1;", 3, Wells.THREE.length() + 6);
        fault(Wells.THREE + "likes 2 2 1;", 3, Wells.THREE.length() + 8);
        fault(Wells.THREE + "likes 2 1 10;", 3, Wells.THREE.length() + 10);
        fault(Wells.THREE + "likes 2 1 -10;", 3, Wells.THREE.length() + 11);
        fault("goods 1;behind 0;", 3, 15);
        fault("goods 1;behind 3;", 3, 15);
        fault("goods 1;ruin 0;", 3, 13);
    }

    private static void faultsOfTooMany() {
        String person = "person age 1 gold 0 asks 0 worth 1;";
        fault("goods 1;" + person.repeat(9), 4, 8 + 8 * person.length());
        String apart = "apart 0 1;";
        fault(Wells.THREE + apart.repeat(9), 4, Wells.THREE.length() + 80);
        fault("goods 1;law not not not not not not not 1=1;", 4, 36);
        fault("goods 1;law ((((((( 1=1;", 4, 18);
        fault("goods 1;law [[[not (([1=1", 2, 21);
        fault("goods 1;law [[[not (((1=1", 4, 21);
        fault("goods 1;law not not not [[[ [1=1", 4, 28);
        WellQueue x = new WellQueue();
        Check.due("six of them", 2, () -> Wells.tell(x, "goods 1;law not not not not not not 1=1 and [[[[[[1=1]]]]]];"));
        Check.due("six brackets", 2, () -> Wells.tell(x, "goods 1;law ((((((1)))))) = ((((((1))))))*((((((1))))));"));
    }

    private static void faultsStay() {
        WellQueue x = Wells.of(Wells.THREE);
        x.ask(0, 1);
        Check.due("a fault", -13, () -> Wells.tell(x, "goods 7;"));
        Check.due("all stays", 3, () -> x.count(2));
        Check.due("deeds stay", 1, () -> x.count(10));
        Check.due("what is asked stays", 1, () -> x.person(0, 1));
        Check.refused("well(1)", IllegalArgumentException.class, () -> x.well(1));
        Check.due("the fault of the latest that threw nothing", 3, () -> x.fault(0));
        Check.due("its place", 6, () -> x.fault(1));
        Check.due("fault(2)", -1, () -> x.fault(2));
        Check.due("fault(-1)", -1, () -> x.fault(-1));
        Wells.tell(x, "goods 1;");
        Check.due("fault(0) without", 0, () -> x.fault(0));
        Check.due("fault(1) without", -1, () -> x.fault(1));
    }
}
