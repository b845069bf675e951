/** Promises 5 and 6: feed, village; the text of a village, its faults, its conditions. */
public final class VillageTest {
    public static void main(String[] args) {
        feed();
        full();
        faults();
        nesting();
        clauses();
        longTexts();
        nothingOfFaults();
        conditions();
        Check.end();
    }

    private static void feed() {
        OneForDog x = new OneForDog();
        Check.due("feed(-1)", x.feed(-1), -2);
        Check.due("feed(128)", x.feed(128), -2);
        Check.due("feed(0)", x.feed(0), 1);
        Check.due("feed(127)", x.feed(127), 2);
        for (int i = 3; i <= 100; i++) {
            Check.due("feed " + i, x.feed('x'), i);
        }
        Check.due("feed 101", x.feed('x'), -4);
        Check.due("feed(128) when full", x.feed(128), -2);
        Check.due("bytes", x.count(4), 100);
        Check.due("village()", x.village(), -10);
        Check.due("bytes behind a fault", x.count(4), 0);
        Check.due("feed behind a fault", x.feed('m'), 1);
    }

    private static void full() {
        OneForDog x = new OneForDog();
        for (int i = 0; i < 6; i++) {
            Check.due("village " + i, Check.village(x, "men " + (i + 2)), i);
            Check.due("it holds", x.told(0), i + 2);
            Check.due("the text is empty", x.count(4), 0);
            Check.due("villages", x.count(1), i + 1);
        }
        Check.due("a seventh", Check.village(x, "men 9"), -4);
        Check.due("the text stays", x.count(4), 5);
        Check.due("the sixth holds", x.told(0), 7);
        Check.due("and stays", x.village(), -4);
    }

    private static void fault(String text, int place) {
        OneForDog x = new OneForDog();
        Check.village(x, "men 8");
        Check.due("'" + text + "'", Check.village(x, text), -10 - place);
        Check.due("'" + text + "': the one that held holds", x.told(0), 8);
        Check.due("'" + text + "': villages", x.count(1), 1);
        Check.due("'" + text + "': the text is empty", x.count(4), 0);
    }

    private static void good(String text) {
        OneForDog x = new OneForDog();
        Check.due("'" + text + "'", Check.village(x, text), 0);
    }

    private static void faults() {
        fault("", 0);
        fault(" men 1", 0);
        fault("x", 0);
        fault(";", 0);
        fault("m", 1);
        fault("mx", 1);
        fault("me", 2);
        fault("men", 3);
        fault("men1", 3);
        fault("men ", 4);
        fault("men  1", 4);
        fault("men x", 4);
        fault("men -1", 4);
        fault("men 1 ", 5);
        fault("men 123", 6);
        fault("men 1;", 6);
        fault("men 1;;", 6);
        fault("men 1; men 2", 6);
        fault("men 1,men 2", 5);
        fault("MEN 1", 0);
        fault("mornin 1", 6);
        fault("morning 1 i=1", 9);
        fault("owe", 1);
        fault("over", 4);
        fault("over i=1", 5);
        fault("over 1", 6);
        fault("over 12", 7);
        fault("over 123 i=1", 7);
        fault("over 1 ", 7);
        fault("over 1  i=1", 7);
        fault("over 1;", 6);
        fault("over 1 q=1", 7);
        fault("over 1 i", 8);
        fault("over 1 i!1", 8);
        fault("over 1 i==1", 9);
        fault("over 1 i=", 9);
        fault("over 1 i=x", 9);
        fault("over 1 i=1x", 10);
        fault("over 1 i=123", 11);
        fault("over 1 i=1&", 11);
        fault("over 1 i=1&&i=2", 11);
        fault("over 1 i=1|", 11);
        fault("over 1 i=1)", 10);
        fault("over 1 (i=1", 11);
        fault("over 1 (i=1;men 2", 11);
        fault("over 1 ()", 8);
        fault("over 1 !", 8);
        fault("over 1 i=1!i=2", 10);
        fault("over 1 i=1(i=2)", 10);
        fault("over 1 i= 1", 9);
        fault("back 1 i=1 ;men 1", 10);
        fault("bacK 1 i=1", 3);
        fault("men 1;over 1 k=7;bad", 19);
        good("men 00");
        good("over 00 h=00");
        good("over 1 i=1&k<2|v>3&!w=59|(h=0)");
        good("back 99 !i=1&!(k=2|!v=3)");
    }

    private static void nesting() {
        good("over 1 ((((i=1))))");
        good("over 1 !!!!i=1");
        good("over 1 (!(!i=1))");
        good("over 1 ((((i=1))))&((((i=1))))|!!!!i=1");
        good("over 1 (((!i=1&!i=2)))");
        fault("over 1 (((((i=1)))))", 11);
        fault("over 1 !!!!!i=1", 11);
        fault("over 1 !!!!(i=1)", 11);
        fault("over 1 ((((!i=1))))", 11);
        fault("over 1 ((((i=1&(i=2)))))", 15);
        fault("over 1 !(!(i=1|(i=2)))", 15);
    }

    private static void clauses() {
        String nine = "men 2;men 3;men 4;men 5;men 6;men 7;men 8;men 9;men 10";
        good(nine);
        good(nine + ";men 11");
        fault(nine + ";men 11;men 12", 61);
        fault(nine + ";men 11;", 61);
        fault(nine + ";", 55);
    }

    private static void longTexts() {
        StringBuilder whole = new StringBuilder("over 1 i=1");
        while (whole.length() < 98) {
            whole.append("|i=1");
        }
        Check.due("length", whole.length(), 98);
        good(whole.toString());
        fault(whole + "|i", 100);
        fault(whole + "|(", 100);
        fault(whole + "1;", 100);
        fault(whole + "11", 99);
        good("over 11" + whole.substring(6, 98) + "1");
    }

    private static void nothingOfFaults() {
        OneForDog x = Check.men(0, 0);
        StringBuilder much = new StringBuilder("men 9;morning 7;over 3 i=0");
        while (much.length() < 96) {
            much.append("|i=0");
        }
        for (int i = 0; i < 9; i++) {
            Check.due("much, " + i, Check.village(x, much + "!"), -10 - much.length());
        }
        Check.due("little", Check.village(x, "back 4 i=0&k=0;back 8 i=1|i=0"), 0);
        Check.due("shares", x.told(0), 3);
        Check.due("morning", x.told(1), 1);
        Check.due("over", x.of(0, 4), 1);
        Check.due("back", x.of(0, 5), 12);
        Check.village(x, "over 5 i=0;over 6 i=0;x");
        Check.due("less", Check.village(x, "over 2 i=0"), 1);
        Check.due("less: over", x.of(0, 4), 2);
    }

    /** By v=5, i=1, k=1, w=0, h=7: which conditions hold. */
    private static void holds(String condition, boolean want) {
        OneForDog x = Check.men(0, 0, 1, 5);
        x.heap(1237);
        Check.village(x, "over 1 " + condition);
        Check.due(condition, x.of(1, 4), want ? 1 : 0);
    }

    private static void conditions() {
        holds("i=1", true);
        holds("i=0", false);
        holds("i<2", true);
        holds("i<1", false);
        holds("i>0", true);
        holds("i>1", false);
        holds("k=1", true);
        holds("k>1", false);
        holds("v=5", true);
        holds("v=05", true);
        holds("v<10", true);
        holds("w=0", true);
        holds("w>0", false);
        holds("h=7", true);
        holds("h=37", false);
        holds("!h=7", false);
        holds("!!h=7", true);
        holds("i=0&i=0|i=1", true);
        holds("i=1|i=0&i=0", true);
        holds("(i=1|i=0)&i=0", false);
        holds("i=1&(i=0|v=5)", true);
        holds("!i=0&i=0", false);
        holds("!(i=0&i=0)", true);
        holds("!i=1|i=1", true);
        holds("!(i=1|i=1)", false);
        holds("!i=0&!k=0&!v=0&!w=1&!h=0", true);
        holds("!i=0&!k=0&!v=0&!w=1&!h=7", false);
        holds("i=0|k=0|v=0|w=1|h=7", true);
        holds("i=0|k=0|v=0|w=1|h=8", false);
        holds("i=0|(k=1&(v=0|(w=0&(h=7))))", true);
        holds("i=0|(k=1&(v=0|(w=0&(h=8))))", false);
        wakingsGone();
    }

    private static void wakingsGone() {
        OneForDog x = Check.men(4, 0);
        Check.village(x, "over 1 w=2|w=59;over 4 w<1");
        int[] overs = new int[62];
        for (int gone = 0; gone < overs.length; gone++) {
            overs[gone] = x.of(0, 4);
            x.heap(99998 + overs[gone]);
            x.wake(0);
        }
        Check.due("wakings", x.told(4), 62);
        for (int gone = 0; gone < overs.length; gone++) {
            int want = gone == 2 || gone == 59 ? 1 : gone == 0 || gone == 60 ? 4 : 0;
            Check.due("over behind " + gone, overs[gone], want);
        }
    }
}
