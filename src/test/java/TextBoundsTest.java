/** The boundary cases of THE WELL's text and of promises 1 to 4; each check is named by the document's words. */
final class TextBoundsTest {
    private static final String PERSON = "person age 1 gold 0 asks 0 worth 0;";
    private static final String TWO = "goods 1;" + PERSON + PERSON;

    private TextBoundsTest() {
    }

    public static void main(String[] args) {
        newObject();
        feed();
        well();
        firstBytesAlone();
        toldAnew();
        faultOf();
        textOf900();
        goods();
        personNumbers();
        personWorths();
        atMostEight();
        apart();
        likes();
        ways();
        ruinAndLaw();
        blanks();
        signs();
        asLongAsTheyGo();
        wordsAsTheyAre();
        firstAlongTheText();
        theEnd();
        withinOneAnother();
        Check.end();
    }

    /** A text that is told: how many LINES. */
    private static WellQueue fine(int lines, String text) {
        WellQueue x = new WellQueue();
        Check.due("well of '" + text + "'", lines, () -> Wells.tell(x, text));
        Check.due("fault(0) of '" + text + "'", 0, () -> x.fault(0));
        Check.due("fault(1) of '" + text + "'", -1, () -> x.fault(1));
        return x;
    }

    /** A text with a FAULT where the @ stands, which is no sign of it. */
    private static void fault(int kind, String marked) {
        int place = marked.indexOf('@');
        String text = marked.substring(0, place) + marked.substring(place + 1);
        WellQueue x = new WellQueue();
        Check.due("well of '" + marked + "'", -10 - kind, () -> Wells.tell(x, text));
        Check.due("fault(0) of '" + marked + "'", kind, () -> x.fault(0));
        Check.due("fault(1) of '" + marked + "'", place, () -> x.fault(1));
        Check.due("nothing is told by '" + marked + "'", 0, () -> x.count(1));
    }

    // ---- promise 1

    private static void newObject() {
        WellQueue x = new WellQueue();
        Check.due("1: no GOODS", 0, () -> x.count(1));
        Check.due("1: no PEOPLE", 0, () -> x.count(2));
        Check.due("1: nobody in the QUEUE", 0, () -> x.count(3));
        Check.due("1: an empty tape", 0, () -> x.count(11));
        Check.noSuch("1: no PERSON 0", () -> x.person(0, 0));
        Check.noSuch("1: nobody at place 0", () -> x.at(0));
        for (int tray = 0; tray < 4; tray++) {
            int t = tray;
            Check.badState("1: TRAY " + t + " is MISSING", () -> x.perform(t));
        }
        for (int image = 0; image < 3; image++) {
            int i = image;
            Check.badState("1: IMAGE " + i + " was not made", () -> x.restore(i));
        }
        Check.due("1: an empty tape has 0 bytes to tell", -12, () -> x.well(0));
    }

    // ---- promise 2

    private static void feed() {
        WellQueue x = new WellQueue();
        String text = "goods 1;" + " ".repeat(887) + "ring;";
        Check.due("2: twenty more at a time, 900 fit", 900, () -> Wells.feed(x, text));
        Check.due("2: NONE if there would be more than 900", -1, () -> x.feed(0, 0, 0, 0, 0));
        Check.due("2: and nothing changes: how many", 900, () -> x.count(11));
        Check.due("2: and nothing changes: the bytes", 2, () -> x.well(900));
        Check.due("2: room again", 20, () -> x.feed(0, 0, 0, 0, 0));
        WellQueue y = new WellQueue();
        Wells.feed(y, " ".repeat(880));
        Check.due("2: the last twenty", 900, () -> y.feed(1, 2, 3, 4, 5));
        WellQueue z = new WellQueue();
        z.feed(0x676f6f64, 0x73203100, 0, 0, 0);
        Check.due("2: the lowest byte of the second int comes eighth", -11, () -> z.well(8));
        Check.due("2: at place 7", 7, () -> z.fault(1));
        z.feed(0x676f6f64, 0x7320313b, 0x72696e67, 0x3b6e6967, 0x68743b20);
        Check.due("2: all five ints, as they come", 3, () -> z.well(20));
        z.feed(0xff676f6f, 0, 0, 0, 0);
        Check.due("2: a highest byte of 255", -11, () -> z.well(1));
    }

    // ---- promise 3

    private static void well() {
        WellQueue x = new WellQueue();
        x.feed(0x676f6f64, 0x7320313b, 0x72696e67, 0x3b202020, 0x20202020);
        Check.badArgument("3: n is below 0", () -> x.well(-1));
        Check.badArgument("3: n is far below 0", () -> x.well(Integer.MIN_VALUE));
        Check.badArgument("3: n is above what it has", () -> x.well(21));
        Check.badArgument("3: n is far above", () -> x.well(Integer.MAX_VALUE));
        Check.due("3: a call that throws leaves the tape", 20, () -> x.count(11));
        Check.due("3: all that it has", 2, () -> x.well(20));
        Check.due("3: the tape is empty then", 0, () -> x.count(11));
        Wells.feed(x, "goods 2;ring;night;");
        Check.due("3: the first n bytes alone", 2, () -> x.well(13));
        Check.due("3: the rest of the tape is gone, too", 0, () -> x.count(11));
        Check.badArgument("3: nothing is left of it", () -> x.well(1));
        Wells.feed(x, "goods 2;");
        Check.due("3: n is 0", -12, () -> x.well(0));
        Check.due("3: n is 0: the tape is empty then", 0, () -> x.count(11));
        x.ring();
        x.days(2);
        Check.due("3: -10 less the FAULT", -13, () -> Wells.tell(x, "goods 9;"));
        Check.due("3: all stays: DEEDS", 2, () -> x.count(10));
        Check.due("3: all stays: DAY", 2, () -> x.count(4));
        Check.due("3: all stays: LINES", 2, () -> x.count(0));
        Check.due("3: the goods are a LINE, too", 1, () -> Wells.tell(x, "goods 3;"));
        Check.due("3: no DEEDS", 0, () -> x.count(10));
        Check.badArgument("3: none can be UNDONE", () -> x.undo(1));
        Check.due("3: no DAY", 0, () -> x.count(4));
        Check.due("3: no ring", 0, () -> x.count(6));
    }

    private static void cut(int kind, int place, int n, String taped) {
        WellQueue x = new WellQueue();
        Wells.feed(x, taped);
        Check.due("3: " + n + " bytes of '" + taped + "'", -10 - kind, () -> x.well(n));
        Check.due("3: its place of '" + taped + "'", place, () -> x.fault(1));
    }

    /** The bytes behind the first n are no part of the text, whatever they are. */
    private static void firstBytesAlone() {
        cut(2, 7, 7, "goods 12;");
        cut(2, 7, 7, "goods 1;");
        cut(2, 4, 4, "    goods 1;");
        cut(2, 0, 4, "goods 1;");
        cut(2, 8, 11, "goods 1;ring;");
        cut(2, 12, 12, "goods 1;ring;");
        cut(2, 16, 16, "goods 1;ruin 100;");
        WellQueue x = new WellQueue();
        Wells.feed(x, "goods 1;ruin 1234;");
        Check.due("3: a number cut to three digits has no end", -12, () -> x.well(16));
        Wells.feed(x, "goods 1;#");
        Check.due("3: no FAULT behind the first n", 1, () -> x.well(8));
        Wells.feed(x, "goods 1;;");
        Check.due("3: nor a sign", 1, () -> x.well(8));
        Wells.tell(x, "goods 1;ring;night;");
        Check.due("3: nor what was on the tape before", -12, () -> Wells.tell(x, "goods"));
    }

    /** THE WELL is the latest text alone: nothing stays of the one before, told or refused. */
    private static void toldAnew() {
        String rich = "goods 3;person age 9 gold 9 asks 2 worth 9 8 7;person age 9 gold 9 asks 2 worth 9 8 7;"
                + "person age 9 gold 9 asks 2 worth 9 8 7;" + "apart 0 1;".repeat(8)
                + "likes 0 1 9;likes 1 0 -9;middle;ring;night;ruin 3;law good=2;";
        String plain = "goods 2;person age 1 gold 1 asks 0 worth 1 2;person age 1 gold 1 asks 1 worth 3 4;";
        for (String before : new String[] {rich, rich + "#", rich.substring(0, rich.length() - 1)}) {
            WellQueue fresh = Wells.of(plain);
            WellQueue x = new WellQueue();
            Wells.tell(x, before);
            x.days(2);
            x.best(0);
            Check.due("3: told anew", 3, () -> Wells.tell(x, plain));
            Check.due("3: no BEST stays", 3, () -> x.best(0));
            Check.same("3: nothing stays", Looks.at(fresh), Looks.at(x));
            Check.due("3: no likes stay", 0, () -> x.likes(0, 1));
            Check.due("3: no other likes stay", 0, () -> x.likes(1, 0));
            Check.due("3: no apart stays", 2, () -> x.orders(Integer.MIN_VALUE));
            Check.due("3: no law stays", 1, () -> x.allowed(1, 1) ? 1 : 0);
            fresh.days(1);
            x.days(1);
            Check.same("3: no night stays", Looks.at(fresh), Looks.at(x));
            Check.due("3: 8 of apart may be told again", 11, () -> Wells.tell(x, plain + "apart 0 1;".repeat(8)));
        }
    }

    // ---- promise 4

    private static void faultOf() {
        WellQueue x = new WellQueue();
        Check.due("4: 0 at first", 0, () -> x.fault(0));
        Check.due("4: NONE at first", -1, () -> x.fault(1));
        Wells.tell(x, "goods ;");
        Check.badArgument("4: a well() that throws", () -> x.well(5));
        Check.due("4: of the latest that threw nothing", 2, () -> x.fault(0));
        Check.due("4: its place", 6, () -> x.fault(1));
        for (int what : new int[] {-1, 2, Integer.MIN_VALUE, Integer.MAX_VALUE}) {
            Check.due("4: NONE for " + what, -1, () -> x.fault(what));
        }
        Wells.tell(x, "goods 1;");
        Check.due("4: 0 without", 0, () -> x.fault(0));
        Check.due("4: NONE without", -1, () -> x.fault(1));
    }

    // ---- THE WELL

    private static void textOf900() {
        WellQueue x = fine(2, "goods 1;" + " ".repeat(887) + "ring;");
        Check.due("at most 900 bytes: the last one counts", 1, () -> x.count(6));
        fault(2, "goods 1;" + " ".repeat(888) + "ring@");
        fault(1, "goods 1;" + " ".repeat(891) + "@#");
        fine(2, "goods 1;law 1" + "+1".repeat(442) + "=1;");
        fine(179, "goods 1;" + "ring;".repeat(178));
    }

    private static void goods() {
        fault(3, "goods @0;");
        fault(3, "goods @7;");
        fault(3, "goods @999;");
        fault(1, "goods @1000;");
        WellQueue x = fine(2, "goods 6;person age 0 gold 0 asks 5 worth 1 2 3 4 5 6;");
        Check.due("goods: 1 to 6, numbered from 0 on", 6, () -> x.worth(0, 5));
        Check.noSuch("no GOOD 6", () -> x.worth(0, 6));
        WellQueue y = fine(2, "goods 1;person age 0 gold 0 asks 0 worth 9;");
        Check.due("one GOOD", 9, () -> y.worth(0, 0));
        Check.noSuch("no GOOD 1", () -> y.worth(0, 1));
        fault(2, "@ring;goods 1;");
        fault(2, "goods 1;@goods 1;");
        fault(2, "goods 1;ring;@goods 7;");
    }

    private static void personNumbers() {
        WellQueue x = fine(3, "goods 3;person age 0 gold 0 asks 0 worth 0 0 0;"
                + "person age 99 gold 999 asks 2 worth 0 0 0;");
        Check.due("age 0", 0, () -> x.person(0, 2));
        Check.due("age 99", 99, () -> x.person(1, 2));
        Check.due("gold 0", 0, () -> x.person(0, 3));
        Check.due("gold 999", 999, () -> x.person(1, 3));
        Check.due("the last GOOD is asked", 2, () -> x.person(1, 1));
        fault(3, "goods 3;person age @100 gold 0 asks 0 worth 0 0 0;");
        fault(1, "goods 3;person age 1 gold @1000 asks 0 worth 0 0 0;");
        fault(3, "goods 3;person age 1 gold 0 asks @3 worth 0 0 0;");
        fault(2, "goods 3;person age @-1 gold 0 asks 0 worth 0 0 0;");
        fault(2, "goods 3;person age 1 gold @-1 asks 0 worth 0 0 0;");
        fault(2, "goods 3;person age 1 gold 0 asks @-1 worth 0 0 0;");
    }

    private static void personWorths() {
        WellQueue x = fine(2, "goods 2;person age 0 gold 0 asks 0 worth 99 -99;");
        Check.due("worth 99", 99, () -> x.worth(0, 0));
        Check.due("worth -99", -99, () -> x.worth(0, 1));
        WellQueue y = fine(2, "goods 2;person age 0 gold 0 asks 0 worth-0- 7;");
        Check.due("worth -0", 0, () -> y.worth(0, 0));
        Check.due("a blank behind the sign", -7, () -> y.worth(0, 1));
        fault(3, "goods 2;person age 0 gold 0 asks 0 worth @100 0;");
        fault(3, "goods 2;person age 0 gold 0 asks 0 worth -@100 0;");
        fault(3, "goods 2;person age 0 gold 0 asks 0 worth 0 -@999;");
        fault(1, "goods 2;person age 0 gold 0 asks 0 worth 0 -@1000;");
        fault(2, "goods 2;person age 0 gold 0 asks 0 worth@;");
        fault(2, "goods 2;person age 0 gold 0 asks 0 worth 1@;");
        fault(2, "goods 2;person age 0 gold 0 asks 0 worth 1 -@;");
        fault(2, "goods 2;person age 0 gold 0 asks 0 worth 1 2 @3;");
        fault(2, "goods 2;person age 0 gold 0 asks 0 worth 1 2 @-3;");
        fault(2, "goods 2;person age 0 gold 0 asks 0 worth @+1 2;");
        fault(2, "goods 2;person age 0 gold 0 asks 0 worth -@-1 2;");
    }

    private static void atMostEight() {
        WellQueue x = fine(9, "goods 1;" + PERSON.repeat(8));
        Check.due("8 PEOPLE", 8, () -> x.count(2));
        Check.due("numbered from 0 on as they come", 7, () -> x.at(7));
        Check.noSuch("no PERSON 8", () -> x.person(8, 0));
        fault(4, "goods 1;" + PERSON.repeat(8) + "@" + PERSON);
        fault(4, "goods 1;" + PERSON.repeat(8) + "@person");
        fault(4, "goods 1;" + PERSON.repeat(8) + "ring;@person age 100");
        fine(1, "goods 1;");
    }

    private static void apart() {
        WellQueue x = fine(11, TWO + "apart 0 1;".repeat(8));
        Check.due("8 of apart, all of one pair", 0, () -> x.orders(0));
        fault(4, TWO + "apart 0 1;".repeat(8) + "@apart 1 0;");
        fault(4, TWO + "apart 0 1;".repeat(8) + "@apart 7 7;");
        fault(3, TWO + "apart 0 @0;");
        fault(3, TWO + "apart 1 @1;");
        fault(3, TWO + "apart @2 0;");
        fault(3, TWO + "apart 0 @2;");
        fault(3, "goods 1;apart @0 1;" + PERSON + PERSON);
        fault(3, "goods 1;" + PERSON + "apart 0 @1;" + PERSON);
        fault(2, TWO + "apart @-0 1;");
        fault(2, TWO + "apart 0@;");
        fault(2, TWO + "apart 0 1 @1;");
        fine(4, TWO + "apart 1 0;");
    }

    private static void likes() {
        WellQueue x = fine(5, TWO + "likes 0 1 9;likes 1 0 -9;");
        Check.due("likes 9", 9, () -> x.likes(0, 1));
        Check.due("likes -9", -9, () -> x.likes(1, 0));
        WellQueue none = fine(3, TWO);
        Check.due("0 without", 0, () -> none.likes(0, 1));
        WellQueue later = fine(6, TWO + "likes 0 1 9;likes 1 0 5;likes 0 1 0;");
        Check.due("later ones strike", 0, () -> later.likes(0, 1));
        Check.due("but for the other one", 5, () -> later.likes(1, 0));
        fault(3, TWO + "likes 0 1 @10;");
        fault(3, TWO + "likes 0 1 -@10;");
        fault(3, TWO + "likes 0 @0 1;");
        fault(3, TWO + "likes @2 0 1;");
        fault(3, TWO + "likes 1 @2 1;");
        fault(3, "goods 1;" + PERSON + "likes 0 @1 1;" + PERSON);
        fault(2, TWO + "likes 0 1@;");
        fault(2, TWO + "likes 0 1 -@;");
        fine(23, TWO + "likes 0 1 1;".repeat(20));
    }

    private static void ways() {
        fault(3, "goods 1;behind @0;");
        fault(3, "goods 1;behind @3;");
        fault(2, "goods 1;behind@;");
        fault(2, "goods 1;behind @-1;");
        fault(2, "goods 1;middle @1;");
        String[] texts = {"", "behind 1;", "behind 2;", "middle;", "behind 2;middle;", "middle;behind 1;",
            "middle;behind 2;", "behind 2;behind 1;", "behind 1;behind 2;middle;", "middle;middle;"};
        int[] due = {1, 1, 2, 3, 3, 1, 2, 1, 3, 3};
        for (int i = 0; i < texts.length; i++) {
            WellQueue x = new WellQueue();
            Wells.tell(x, "goods 1;" + texts[i]);
            Check.due("the way by '" + texts[i] + "'", due[i], () -> x.count(5));
        }
    }

    private static void ruinAndLaw() {
        fault(3, "goods 1;ruin @0;");
        fault(3, "goods 1;ruin @000;");
        fault(1, "goods 1;ruin @1000;");
        fault(2, "goods 1;ruin @-1;");
        WellQueue one = fine(2, "goods 1;ruin 1;");
        Check.due("ruin 1", 1, () -> one.count(7));
        WellQueue most = fine(2, "goods 1;ruin 999;");
        Check.due("ruin 999", 999, () -> most.count(7));
        WellQueue none = fine(1, "goods 1;");
        Check.due("none without", 0, () -> none.count(7));
        WellQueue later = fine(4, "goods 1;ruin 999;ruin 1;ruin 5;");
        Check.due("later ones of ruin strike", 5, () -> later.count(7));
        WellQueue law = fine(4, "goods 1;" + PERSON + "law 1=1;law 1=0;");
        Check.due("later ones of law strike", 0, () -> law.allowed(0, 0) ? 1 : 0);
        WellQueue first = fine(3, "goods 1;law gold=0;" + PERSON);
        Check.due("a law may be told ahead of PEOPLE", 1, () -> first.allowed(0, 0) ? 1 : 0);
        WellQueue twice = fine(5, "goods 1;ring;ring;night;night;");
        Check.due("a ring told twice", 1, () -> twice.count(6));
        Check.due("a night told twice", 1, () -> twice.count(12));
    }

    // ---- TOKENS

    private static void blanks() {
        fine(2, "\n\ngoods\n\n1\n;\n ring ; \n");
        fine(2, " goods 1 ; ring ;");
        for (int sign : new int[] {0, 9, 11, 12, 13, 31, 33, 127, 128, 133, 160, 255}) {
            fault(1, "goods 1;@" + (char) sign + "ring;");
            fault(1, "goods@" + (char) sign + "1;");
        }
    }

    /** Of all 256 signs, which begin a TOKEN: those can't stand behind the goods; the others are none. */
    private static void signs() {
        String begin = ";+-*()[]=<>abcdefghijklmnopqrstuvwxyz0123456789";
        for (int sign = 0; sign < 256; sign++) {
            if (sign != 10 && sign != 32) {
                fault(begin.indexOf(sign) >= 0 ? 2 : 1, "goods 1;@" + (char) sign);
            }
        }
    }

    private static void asLongAsTheyGo() {
        fine(2, "goods1;ruin999;");
        fine(3, "goods1;person age1gold0asks0worth-5;law(good)=0and[1<2]or not gold>9;");
        fault(2, "@goodss 1;");
        fault(2, "goods 1;@ringring;");
        fault(2, "goods 1;law 1=1 @andnot 1=1;");
        fault(2, "goods 1;@r ing;");
        fault(2, "goods 1 @1;");
        fine(1, "goods 001;");
        fault(1, "goods @0001;");
        fault(1, "goods @00000000000000000001;");
        fault(1, "goods 1;law @4294967297=1;");
        fine(2, "goods 1;law 999=000;");
        fault(2, "goods 1;law 1=@=1;");
        fault(2, "goods 1;law 1<@=1;");
    }

    /** With one letter changed, or one more, no word is a word: it can't stand there. */
    private static void wordsAsTheyAre() {
        String text = TWO + "apart 0 1;likes 0 1 1;behind 2;middle;ring;night;ruin 3;"
                + "law not good=worth and age<gold or place>others or total=day;";
        fine(11, text);
        int start = 0;
        for (int at = 0; at < text.length(); at++) {
            char sign = text.charAt(at);
            if (sign < 'a' || sign > 'z') {
                start = at + 1;
                continue;
            }
            for (char other : new char[] {'a', 'x', 'z'}) {
                if (other != sign) {
                    fault(2, text.substring(0, start) + "@" + text.substring(start, at) + other + text.substring(at + 1));
                }
            }
            if (at + 1 < text.length() && !Character.isLowerCase(text.charAt(at + 1))) {
                fault(2, text.substring(0, start) + "@" + text.substring(start, at + 1) + "z" + text.substring(at + 1));
                fault(2, text.substring(0, start) + "@" + text.substring(start, at) + " " + text.substring(at + 1));
            }
        }
        fault(2, "goods @six;");
        fault(2, "goods 1;ruin @one;");
        fault(2, TWO + "apart 0 @one;");
        fault(2, TWO + "likes 0 @one 1;");
        fault(2, "goods 1;law [@what=1];");
        fault(2, "goods 1;law (@what)=1;");
        fault(2, "goods 1;law 1=1 or @what=1;");
        fault(2, "goods 1;law @ring=1;");
        fault(2, "goods 1;@good 1;");
        fault(2, "goods 1;@age 1;");
        fault(2, "goods 1;@not;");
    }

    private static void firstAlongTheText() {
        fault(3, "goods @7 # 1000");
        fault(2, "goods@;# 7");
        fault(1, "goods @# 7");
        fault(1, "goods 1;behind @3000;");
        fault(1, "goods 1;" + PERSON.repeat(8) + "@#person");
        fault(2, "goods 1;law 1@; 1000");
        fault(2, "goods 1;person @7 1000;");
        fault(4, "goods 1;" + PERSON.repeat(8) + "@person 7");
        // a LINE that ends too soon, and another FAULT behind it
        String[] lines = {"goods", "person", "person age", "person age 1", "person age 1 gold", "person age 1 gold 0",
            "person age 1 gold 0 asks", "person age 1 gold 0 asks 0", "person age 1 gold 0 asks 0 worth", "apart",
            "apart 0", "likes", "likes 0", "likes 0 1", "likes 0 1 -", "behind", "ruin", "law", "law 1", "law 1=",
            "law not", "law 1=1 or", "law 1=1 and", "law 1+", "law 1*", "law [1=1", "law (1"};
        for (String line : lines) {
            fault(2, line.equals("goods") ? "goods@;#" : TWO + line + "@;#");
        }
        // a seventh ( that can't stand there anyway: the least kind
        fault(2, "goods 1;law ((((((1@(");
        fault(2, "goods 1;law ((((((@[");
        fault(2, "goods 1;law ((((((@not");
    }

    private static void theEnd() {
        fault(2, "@");
        fault(2, " @");
        fault(2, "\n\n\n@");
        fault(2, "goods@");
        fault(2, "goods  @");
        fault(2, "goods 1@");
        fault(2, "goods 1 \n@");
        fault(2, "goods 1;person@");
        fault(2, "goods 1;person age 1 gold 0 asks 0 worth 1@");
        fault(2, "goods 1;law@");
        fault(2, "goods 1;law 1=@");
        fault(2, "goods 1;law [1=1@");
        fault(2, "goods 1;law 1=1 or@");
        fault(2, "goods 1;law not @");
        fault(2, "goods 1;law (1@");
        fine(1, "goods 1;");
        fine(1, "goods 1;\n  ");
    }

    private static void withinOneAnother() {
        fine(2, "goods 1;law not not not not not not 1=1;");
        fine(2, "goods 1;law [[[[[[1=1]]]]]];");
        fine(2, "goods 1;law ((((((1))))))=((((((1))))));");
        fine(2, "goods 1;law not [not [(1)=((1))]];");
        fine(2, "goods 1;law not not not not not not 1=1 and not not not not not not 1=1;");
        fine(2, "goods 1;law [[[[[[1=1]]]]]] or [[[[[[1=1]]]]]];");
        fine(2, "goods 1;law not [not [not (1)=1 or (1)*(1)=1]];");
        fault(4, "goods 1;law not not not not not not @not 1=1;");
        fault(4, "goods 1;law not not not not not not @[1=1];");
        fault(4, "goods 1;law not not not not not not @(1)=1;");
        fault(4, "goods 1;law not not not not not not 1=@(1);");
        fault(4, "goods 1;law [[[[[[@[1=1]]]]]]];");
        fault(4, "goods 1;law [[[[[[@not 1=1]]]]]];");
        fault(4, "goods 1;law [[[[[[1+@(1)=1]]]]]];");
        fault(4, "goods 1;law ((((((@(1)))))))=1;");
        fault(4, "goods 1;law 1=1*((((((@(");
        fault(4, "goods 1;law [1=1 or [1=1 and [not [not @[1=1]]]]];");
    }
}
