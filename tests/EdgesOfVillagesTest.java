/** The boundary cases of promises 5 and 6: feed, village; how a village's text is read. One test for each sentence. */
public final class EdgesOfVillagesTest {
    private static final int LOWEST = Integer.MIN_VALUE, HIGHEST = Integer.MAX_VALUE;

    public static void main(String[] args) {
        feedBounds();
        feedBytes();
        feedBad();
        feedFull();
        feedFirstNamed();
        textIsEmptyThen();
        holdsItsNumber();
        newestHolds();
        villageFull();
        faultOfFaults();
        manyFaults();
        oneToTenClauses();
        semicolonsBetween();
        oneBlank();
        digitsOfClauses();
        digitsOfTests();
        withinFour();
        firstByte();
        endOfText();
        atHundred();
        withoutOne();
        Check.end();
    }

    private static void feedBounds() {
        Check.sentence(5, "A sign (0 .. 127) comes behind THE TEXT's: how many it has");
        OneForDog x = new OneForDog();
        Check.due("feed(0)", x.feed(0), 1);
        Check.due("feed(127)", x.feed(127), 2);
        Check.due("bytes", x.count(4), 2);
    }

    private static void feedBytes() {
        Check.sentence(5, "THE TEXT (bytes, 100 at most)");
        OneForDog x = new OneForDog();
        for (int i = 1; i <= 103; i++) {
            Check.due("feed " + i, x.feed(i), i <= 100 ? i : -4);
            Check.due("bytes", x.count(4), Math.min(i, 100));
        }
        Check.due("its first byte is none of a village's", x.village(), -10);
    }

    private static void feedBad() {
        Check.sentence(5, "BAD");
        OneForDog x = new OneForDog();
        Check.feed(x, "men 7");
        int[] bad = {-1, 128, 256 + '1', LOWEST, HIGHEST};
        for (int sign : bad) {
            Check.due("feed(" + sign + ")", x.feed(sign), -2);
            Check.due("bytes", x.count(4), 5);
        }
        Check.due("the next byte", x.feed('1'), 6);
        x.village();
        Check.due("the text as it was", x.told(0), 71);
    }

    private static void feedFull() {
        Check.sentence(5, "FULL");
        OneForDog x = Check.men(0, 0);
        StringBuilder text = new StringBuilder("men 71;over 07 i=00");
        while (text.length() < 99) {
            text.append("|v=8");
        }
        for (int i = 0; i < 99; i++) {
            Check.due("feed " + (i + 1), x.feed(text.charAt(i)), i + 1);
        }
        Check.due("the hundredth", x.feed('9'), 100);
        Check.due("one more", x.feed('9'), -4);
        Check.due("one more blank", x.feed(' '), -4);
        Check.due("bytes", x.count(4), 100);
        Check.due("the text as it was", x.village(), 0);
        Check.due("its shares", x.told(0), 71);
        Check.due("its over", x.of(0, 4), 7);
        Check.due("an empty text again", x.feed('m'), 1);
    }

    private static void feedFirstNamed() {
        Check.sentence(5, "the first that a call's words name");
        OneForDog x = new OneForDog();
        for (int i = 0; i < 100; i++) {
            x.feed('x');
        }
        Check.due("feed(128) to a full text", x.feed(128), -2);
        Check.due("feed(-1) to a full text", x.feed(-1), -2);
        Check.due("feed(127) to a full text", x.feed(127), -4);
    }

    private static void textIsEmptyThen() {
        Check.sentence(6, "THE TEXT, which is empty then, is a VILLAGE");
        OneForDog x = new OneForDog();
        Check.feed(x, "men 8;morning 5");
        Check.due("bytes ahead", x.count(4), 15);
        Check.due("village()", x.village(), 0);
        Check.due("bytes behind", x.count(4), 0);
        Check.due("the next sign is the first", x.feed('m'), 1);
        Check.due("so the text is just that", x.village(), -10 - 1);
    }

    private static void holdsItsNumber() {
        Check.sentence(6, "and holds: its number");
        OneForDog x = new OneForDog();
        for (int i = 0; i < 6; i++) {
            Check.due("village " + i, Check.village(x, "men " + (i + 20)), i);
            Check.due("it holds", x.told(0), i + 20);
            Check.due("a fault takes no number", Check.village(x, "men"), i == 5 ? -4 : -10 - 3);
        }
    }

    private static void newestHolds() {
        Check.sentence(6, "The newest VILLAGE holds (6 at most)");
        OneForDog x = Check.men(0, 0);
        x.heap(9);
        for (int i = 0; i < 6; i++) {
            String rules = ";over " + (i + 10) + " h=9;back " + (i + 30) + " h=9";
            Check.village(x, "men " + (i + 4) + ";morning " + i + rules);
            Check.due("villages", x.count(1), i + 1);
            Check.due("SHARES of " + i, x.told(0), i + 4);
            Check.due("MORNING of " + i, x.told(1), i);
            Check.due("OVER of " + i, x.of(0, 4), i + 10);
            Check.due("BACK of " + i, x.of(0, 5), i + 30);
        }
        Check.village(x, "men 88");
        Check.due("no seventh", x.count(1), 6);
        Check.due("the sixth holds", x.told(0), 9);
    }

    private static OneForDog six() {
        OneForDog x = new OneForDog();
        for (int i = 0; i < 6; i++) {
            Check.village(x, "men " + (i + 2));
        }
        return x;
    }

    private static void villageFull() {
        Check.sentence(6, "FULL: there are 6 (THE TEXT stays)");
        OneForDog x = six();
        Check.due("of an empty text", x.village(), -4);
        Check.due("of a good text", Check.village(x, "men 9"), -4);
        Check.due("bytes stay", x.count(4), 5);
        Check.due("the sixth holds", x.told(0), 7);
        Check.due("there are six", x.count(1), 6);
        Check.due("one sign more", x.feed('x'), 6);
        Check.due("of a text with a fault", x.village(), -4);
        Check.due("its bytes stay, too", x.count(4), 6);
    }

    private static void faultOfFaults() {
        Check.sentence(6, "-10 less the FAULT (the one that held holds; THE TEXT is empty)");
        OneForDog x = Check.men(0, 0);
        Check.due("none holds: a fault", Check.village(x, "men 5;morning 7;x"), -10 - 16);
        Check.due("SHARES as without", x.told(0), 3);
        Check.due("MORNING as without", x.told(1), 1);
        Check.due("bytes", x.count(4), 0);
        Check.due("villages", x.count(1), 0);
        Check.village(x, "men 8;morning 6;over 9 i=0;back 4 i=0");
        String early = "men 5;morning 7;over 1 i=0;over 2 i=0;back 3 i=0;";
        Check.due("one holds: a fault", Check.village(x, early), -10 - 49);
        Check.due("SHARES stay", x.told(0), 8);
        Check.due("MORNING stays", x.told(1), 6);
        Check.due("OVER stays", x.of(0, 4), 9);
        Check.due("BACK stays", x.of(0, 5), 4);
        Check.due("bytes again", x.count(4), 0);
        Check.due("villages again", x.count(1), 1);
        Check.due("the next one has nothing of the fault's", Check.village(x, "over 7 i=0"), 1);
        Check.due("its SHARES", x.told(0), 3);
        Check.due("its MORNING", x.told(1), 1);
        Check.due("its OVER", x.of(0, 4), 7);
        Check.due("its BACK", x.of(0, 5), 0);
        Check.village(x, "over 5 i=0;over 6 i=0;x");
        Check.due("one without an over behind a fault with two", Check.village(x, "back 2 i=0"), 2);
        Check.due("its OVER", x.of(0, 4), 1);
        Check.due("its BACK", x.of(0, 5), 2);
    }

    /** The text has its fault at this place. */
    private static void fault(String text, int place) {
        Check.due("'" + text + "'", Check.village(new OneForDog(), text), -10 - place);
    }

    private static void good(String text) {
        Check.due("'" + text + "'", Check.village(new OneForDog(), text), 0);
    }

    private static void manyFaults() {
        Check.sentence(6, "(the one that held holds; THE TEXT is empty)");
        OneForDog x = Check.men(0, 0);
        Check.village(x, "men 8");
        StringBuilder much = new StringBuilder("over 3 i=0;back 4 i=0");
        while (much.length() < 97) {
            much.append("|i=0");
        }
        for (int i = 0; i < 3; i++) {
            Check.due("fault " + i, Check.village(x, much + "!"), -10 - much.length());
            Check.due("it holds", x.told(0), 8);
            Check.due("bytes", x.count(4), 0);
        }
        Check.due("a good one then", Check.village(x, "back 4 i=0&k=0;back 8 i=1|i=0"), 1);
        Check.due("its OVER", x.of(0, 4), 1);
        Check.due("its BACK", x.of(0, 5), 12);
    }

    private static void oneToTenClauses() {
        Check.sentence(6, "CLAUSES, 1 to 10");
        fault("", 0);
        StringBuilder text = new StringBuilder("men 1");
        good(text.toString());
        for (int clauses = 2; clauses <= 10; clauses++) {
            text.append(";men ").append(clauses % 10);
            good(text.toString());
        }
        fault(text + ";men 1", text.length());
        fault(text + ";", text.length());
        fault(text + ";;", text.length());
        String rules = "over 1 i=0;back 2 i=0;over 4 i=0;back 8 i=0;over 1 i=0;back 2 i=0;"
            + "men 2;men 4;over 9 i=0;back 9 i=0";
        OneForDog x = Check.men(0, 0);
        Check.due("ten clauses, eight of them rules", Check.village(x, rules), 0);
        Check.due("their overs", x.of(0, 4), 15);
        Check.due("their backs", x.of(0, 5), 21);
        OneForDog y = Check.men(0, 0);
        Check.village(y, "over 1 i=0;over 2 i=0;over 3 i=0;over 4 i=0;over 5 i=0;over 6 i=0;over 7 i=0;"
            + "over 8 i=0;over 9 i=0");
        Check.due("nine overs, no more have room", y.of(0, 4), 45);
    }

    private static void semicolonsBetween() {
        Check.sentence(6, "with ; between");
        good("men 1;men 2");
        fault(";", 0);
        fault(";men 1", 0);
        fault("men 1;", 6);
        fault("men 1;;men 2", 6);
        fault("men 1men 2", 5);
        fault("men 1 men 2", 5);
        fault("men 1,men 2", 5);
        fault("men 1;\nmen 2", 6);
        fault("over 1 i=0 over 1 i=0", 10);
    }

    private static void oneBlank() {
        Check.sentence(6, "one blank ahead of each part behind the word");
        fault("men5", 3);
        fault("men  5", 4);
        fault("men\t5", 3);
        fault(" men 5", 0);
        fault("men 5 ", 5);
        fault("morning5", 7);
        fault("morning  5", 8);
        fault("over5 i=0", 4);
        fault("over  5 i=0", 5);
        fault("over 5i=0", 6);
        fault("over 5  i=0", 7);
        fault("over 5 i =0", 8);
        fault("over 5 i= 0", 9);
        fault("over 5 i=0 ", 10);
        fault("over 5 i=0 |i=1", 10);
        fault("over 5 ( i=0)", 8);
        fault("back5 i=0", 4);
        fault("back  5 i=0", 5);
        fault("back 5i=0", 6);
        fault("back 5  i=0", 7);
        fault("men 5 ;men 6", 5);
        fault("men 5; men 6", 6);
    }

    private static void digitsOfClauses() {
        Check.sentence(6, "n 1 or 2 digits");
        String[] heads = {"men ", "morning ", "over ", "back "};
        for (String head : heads) {
            String tail = head.equals("over ") || head.equals("back ") ? " i=0" : "";
            int at = head.length();
            fault(head + tail, at);
            good(head + "0" + tail);
            good(head + "9" + tail);
            good(head + "00" + tail);
            good(head + "07" + tail);
            good(head + "99" + tail);
            fault(head + "123" + tail, at + 2);
            fault(head + "000" + tail, at + 2);
            fault(head + "-1" + tail, at);
            fault(head + "+1" + tail, at);
            fault(head + "1x" + tail, at + 1);
            fault(head + "/" + tail, at);
            fault(head + ":" + tail, at);
            fault(head + "1/" + tail, at + 1);
            fault(head + "1:" + tail, at + 1);
        }
        OneForDog x = new OneForDog();
        Check.village(x, "men 07;morning 00");
        Check.due("07", x.told(0), 7);
        Check.due("00", x.told(1), 0);
    }

    private static void digitsOfTests() {
        Check.sentence(6, "a number (1 or 2 digits)");
        fault("over 1 i=", 9);
        fault("over 1 i=;men 2", 9);
        fault("over 1 i=)", 9);
        good("over 1 i=0");
        good("over 1 i=9");
        good("over 1 i=00");
        good("over 1 i=99");
        fault("over 1 i=100", 11);
        fault("over 1 i=000|i=1", 11);
        fault("over 1 i=-1", 9);
        fault("over 1 i=1/", 10);
        fault("over 1 i=1:", 10);
        OneForDog x = Check.men(0, 7);
        Check.village(x, "over 1 v=07;over 2 v=7;over 4 v=70;over 8 v<99;over 16 v>06");
        Check.due("7 is 07", x.of(0, 4), 1 + 2 + 8 + 16);
    }

    private static void withinFour() {
        Check.sentence(6, "A ( or ! within 4 others is none");
        good("over 1 ((((i=0))))");
        fault("over 1 (((((i=0)))))", 11);
        good("over 1 !!!!i=0");
        fault("over 1 !!!!!i=0", 11);
        good("over 1 (!(!i=0))");
        fault("over 1 (!(!(i=0)))", 11);
        fault("over 1 (!(!!i=0))", 11);
        fault("over 1 !!!!(i=0)", 11);
        fault("over 1 ((((!i=0))))", 11);
        fault("over 1 ((((i=0&(i=0)))))", 15);
        fault("over 1 ((((i=0|!i=0))))", 15);
        good("over 1 ((((i=0))))&((((i=0))))|((((i=0))))");
        good("over 1 !!!!i=0&!!!!i=0|!!!!i=0;back 2 !!!!i=0");
        good("over 1 (((!i=0&!i=0)|(i=0)))");
        good("over 1 !((i=0)&(i=0&!i=0))");
        fault("over 1 !((i=0)&(i=0&!!i=0))", 21);
    }

    private static final String WHOLE = "men 12;over 3 i=0|!(k<1&v>2)&h=45;back 67 (w>8);morning 90";
    /** How long the beginnings of it are that are villages, too. */
    private static final String ENDS = " 5 6 17 28 32 33 47 57 ";

    private static void firstByte() {
        Check.sentence(6, "the place of the first byte with which none begins so");
        good(WHOLE);
        String never = "#A~\"'z";
        for (int place = 0; place < WHOLE.length(); place++) {
            char wrong = never.charAt(place % never.length());
            fault(WHOLE.substring(0, place) + wrong + WHOLE.substring(place + 1), place);
        }
        fault("x", 0);
        fault("men 1)", 5);
        fault("man 1", 1);
        fault("mean 1", 2);
        fault("morn 1", 4);
        fault("oven 1 i=0", 3);
        fault("over 1 x=0", 7);
        fault("over 1 i~0", 8);
        fault("over 1 i<=0", 9);
        fault("over 1 i=0)", 10);
        fault("over 1 i=0!i=0", 10);
        fault("over 1 i=0&&i=0", 11);
        fault("over 1 ()", 8);
        fault("over 1 (i=0;men 2", 11);
        fault("over 1 (i=0))", 12);
        fault("over 1 !!)", 9);
        fault("Men 1", 0);
        fault("over 1 I=0", 7);
        fault("men 1;x;y", 6);
        OneForDog x = new OneForDog();
        x.feed('m');
        x.feed(0);
        Check.due("a sign 0", x.village(), -10 - 1);
        OneForDog y = new OneForDog();
        Check.feed(y, "men 1");
        y.feed(127);
        Check.due("a sign 127", y.village(), -10 - 5);
    }

    private static void endOfText() {
        Check.sentence(6, "(the end of THE TEXT, if it ends too early");
        for (int length = 0; length < WHOLE.length(); length++) {
            String text = WHOLE.substring(0, length);
            if (ENDS.contains(" " + length + " ")) {
                good(text);
            } else {
                fault(text, length);
            }
        }
        String[] early = {"m", "mo", "morning", "o", "b", "back 1", "back 12 ", "over 1 (", "over 1 !", "over 1 (!",
            "over 1 (i=0", "over 1 (i=0&", "over 1 i=0|", "over 1 i<", "over 1 ((i=0)"};
        for (String text : early) {
            fault(text, text.length());
        }
    }

    private static void atHundred() {
        Check.sentence(6, "at 100, too");
        StringBuilder text = new StringBuilder("over 1 i=1");
        while (text.length() < 98) {
            text.append("|i=1");
        }
        good(text.toString());
        good("over 11" + text.substring(6) + "1");
        fault(text + "|i", 100);
        fault(text + "|(", 100);
        fault(text + "|!", 100);
        fault(text + ";m", 100);
        fault(text + "1;", 100);
        fault(text + "11", 99);
        fault(text + "x|", 98);
        OneForDog x = new OneForDog();
        Check.due("the hundred", Check.village(x, text + "|i"), -110);
        Check.due("bytes behind it", x.count(4), 0);
    }

    private static void withoutOne() {
        Check.sentence(6, "without one there are no CLAUSES");
        OneForDog x = Check.men(0, 0);
        Check.due("SHARES", x.told(0), 3);
        Check.due("MORNING", x.told(1), 1);
        Check.due("OVER", x.of(0, 4), 1);
        Check.due("BACK", x.of(0, 5), 0);
        Check.due("PARTS", x.of(0, 3), 3);
        x.heap(4);
        Check.due("a waking", x.wake(0), 1);
        Check.due("a night", x.night(4), 1);
    }
}
