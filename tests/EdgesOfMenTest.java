/** The boundary cases of promises 1 to 4 and 7: a new object, man, of, heap, told. One test for each sentence. */
public final class EdgesOfMenTest {
    private static final int LOWEST = Integer.MIN_VALUE, HIGHEST = Integer.MAX_VALUE;

    public static void main(String[] args) {
        nobody();
        noVillage();
        heapAtFirst();
        hiddenAtFirst();
        dogAtFirst();
        wakingsAtFirst();
        manNone();
        manBad();
        manFull();
        manFirstNamed();
        hisNumber();
        menAsTheyCome();
        ofNone();
        partsByOwnNumber();
        noOverClauses();
        oversTogether();
        backsTogether();
        tests();
        heapModulo();
        wakingsModulo();
        comesOutNow();
        heapBounds();
        heapBad();
        heapWas();
        toldBounds();
        toldNone();
        lastMen();
        sharesAtLeast();
        lastMorning();
        Check.end();
    }

    private static void nobody() {
        Check.sentence(1, "Nobody");
        OneForDog x = new OneForDog();
        Check.due("count(0)", x.count(0), 0);
        Check.due("of(0, 0)", x.of(0, 0), -10001);
        Check.due("wake(0)", x.wake(0), -1);
        Check.due("row(0)", x.row(0), -1);
        Check.due("left(0, 0)", x.left(0, 0), -10001);
        Check.due("fair(0, 0, 0)", x.fair(0, 0, 0), OneForDog.NO);
        Check.due("taken(0, 0)", x.taken(0, 0), -11);
        Check.due("act(0, 0, 5)", x.act(0, 0, 5), 0);
        Check.due("image()", x.image(), 0);
        Check.due("the first man", x.man(0, 0), 0);
    }

    private static void noVillage() {
        Check.sentence(1, "no VILLAGE");
        OneForDog x = new OneForDog();
        Check.due("count(1)", x.count(1), 0);
        Check.due("SHARES", x.told(0), 3);
        Check.due("MORNING", x.told(1), 1);
        Check.due("THE TEXT", x.count(4), 0);
        Check.due("the first village", Check.village(x, "men 4"), 0);
    }

    private static void heapAtFirst() {
        Check.sentence(1, "(0 at first)");
        OneForDog x = new OneForDog();
        Check.due("told(2)", x.told(2), 0);
        Check.due("heap(5)", x.heap(5), 0);
    }

    private static void hiddenAtFirst() {
        Check.sentence(1, "HIDDEN of a MAN (an int): 0 at first");
        OneForDog x = Check.men(0, 0, 1, 9, 2, 5, 4, 0, 5, 3, 6, 9);
        for (int man = 0; man < 6; man++) {
            Check.due("of(" + man + ", 2)", x.of(man, 2), 0);
        }
        x.tape(0, 3, 6);
        Check.due("judge of 0 for all", x.judge(0, 0), -5);
    }

    private static void dogAtFirst() {
        Check.sentence(1, "THE DOG has had 0 at first");
        Check.due("told(3)", new OneForDog().told(3), 0);
    }

    private static void wakingsAtFirst() {
        Check.sentence(1, "WAKINGS gone: 0 at first");
        OneForDog x = Check.men(0, 0);
        Check.due("told(4)", x.told(4), 0);
        Check.village(x, "over 7 w=0");
        Check.due("over by w=0", x.of(0, 4), 7);
    }

    private static void manNone() {
        Check.sentence(2, "NONE: kind");
        OneForDog x = new OneForDog();
        int[] noKinds = {-1, 7, LOWEST, HIGHEST};
        for (int kind : noKinds) {
            Check.due("man(" + kind + ", 0)", x.man(kind, 0), -1);
        }
        Check.due("nobody came", x.count(0), 0);
        Check.due("man(0, 0)", x.man(0, 0), 0);
        Check.due("man(6, 0)", x.man(6, 0), 1);
        Check.due("the first one's kind", x.of(0, 0), 0);
        Check.due("the second one's kind", x.of(1, 0), 6);
    }

    private static void manBad() {
        Check.sentence(2, "BAD: v");
        OneForDog x = new OneForDog();
        int[] noNumbers = {-1, 10, LOWEST, HIGHEST};
        for (int v : noNumbers) {
            Check.due("man(3, " + v + ")", x.man(3, v), -2);
        }
        Check.due("nobody came", x.count(0), 0);
        Check.due("man(3, 0)", x.man(3, 0), 0);
        Check.due("man(3, 9)", x.man(3, 9), 1);
        Check.due("the first one's v", x.of(0, 1), 0);
        Check.due("the second one's v", x.of(1, 1), 9);
    }

    private static void manFull() {
        Check.sentence(2, "FULL: 6");
        OneForDog x = new OneForDog();
        for (int i = 0; i < 6; i++) {
            Check.due("man " + i, x.man(i, i + 2), i);
        }
        Check.due("a seventh", x.man(6, 9), -4);
        Check.due("six came", x.count(0), 6);
        Check.due("no seventh", x.of(6, 0), -10001);
        for (int i = 0; i < 6; i++) {
            Check.due("kind of " + i, x.of(i, 0), i);
            Check.due("v of " + i, x.of(i, 1), i + 2);
        }
    }

    private static void manFirstNamed() {
        Check.sentence(2, "the first that a call's words name");
        OneForDog x = new OneForDog();
        Check.due("no kind and no v", x.man(7, 10), -1);
        for (int i = 0; i < 6; i++) {
            x.man(0, 0);
        }
        Check.due("a seventh of no kind", x.man(-1, 0), -1);
        Check.due("a seventh of no kind and no v", x.man(-1, -1), -1);
        Check.due("a seventh of no v", x.man(6, 10), -2);
    }

    private static void hisNumber() {
        Check.sentence(2, "A MAN: his number");
        OneForDog x = new OneForDog();
        Check.due("the first", x.man(6, 9), 0);
        x.image();
        Check.due("the second", x.man(6, 9), 1);
        x.undo();
        Check.due("the second again, behind undo()", x.man(0, 0), 1);
        Check.due("he is the later one", x.of(1, 0), 0);
    }

    private static void menAsTheyCome() {
        Check.sentence(2, "MEN 0 .. 5, as they come");
        OneForDog x = new OneForDog();
        x.man(7, 0);
        Check.due("the first, behind a refused one", x.man(5, 3), 0);
        x.man(0, 10);
        Check.due("the second, behind a refused one", x.man(2, 8), 1);
        Check.due("kind of 0", x.of(0, 0), 5);
        Check.due("kind of 1", x.of(1, 0), 2);
        Check.due("v of 0", x.of(0, 1), 3);
        Check.due("v of 1", x.of(1, 1), 8);
    }

    private static void ofNone() {
        Check.sentence(3, "-10001: NONE");
        OneForDog x = Check.men(0, 0, 1, 4);
        int[] nobody = {-1, 2, 6, LOWEST, HIGHEST};
        for (int man : nobody) {
            for (int what = 0; what < 7; what++) {
                Check.due("of(" + man + ", " + what + ")", x.of(man, what), -10001);
            }
        }
        int[] nothing = {-1, 7, LOWEST, HIGHEST};
        for (int what : nothing) {
            Check.due("of(1, " + what + ")", x.of(1, what), -10001);
        }
        Check.due("the last man is", x.of(1, 0), 1);
        Check.due("the last question is", x.of(1, 6), 0);
    }

    private static void partsByOwnNumber() {
        Check.sentence(3, "PARTS: SHARES; SHARING, HONEST: v and 2; HALVING, LIAR: 2");
        OneForDog x = Check.men(1, 0, 1, 9, 4, 0, 4, 9, 3, 9, 6, 9);
        Check.village(x, "men 99");
        int[] parts = {2, 11, 2, 11, 2, 2};
        for (int man = 0; man < 6; man++) {
            Check.due("parts of " + man, x.of(man, 3), parts[man]);
        }
        OneForDog y = Check.men(0, 9, 2, 9, 5, 9);
        for (int man = 0; man < 3; man++) {
            Check.due("without a village, parts of " + man, y.of(man, 3), 3);
        }
        Check.village(y, "men 99");
        for (int man = 0; man < 3; man++) {
            Check.due("by men 99, parts of " + man, y.of(man, 3), 99);
        }
    }

    private static void noOverClauses() {
        Check.sentence(3, "(1, if there are no over CLAUSES at all)");
        OneForDog x = Check.men(0, 0);
        Check.due("without a village", x.of(0, 4), 1);
        Check.village(x, "men 4;back 7 i=0");
        Check.due("by none", x.of(0, 4), 1);
        Check.village(x, "over 5 i=1");
        Check.due("by one that does not hold", x.of(0, 4), 0);
        Check.village(x, "over 0 i=0");
        Check.due("by one of 0", x.of(0, 4), 0);
    }

    private static void oversTogether() {
        Check.sentence(3, "OVER for a MAN: the n of all over whose E holds, together");
        OneForDog x = Check.men(0, 0, 0, 0);
        Check.village(x, "over 99 i<2;over 99 i=0;over 99 i>0;over 9 i=1;back 50 i=0");
        Check.due("of(0, 4)", x.of(0, 4), 198);
        Check.due("of(1, 4)", x.of(1, 4), 207);
    }

    private static void backsTogether() {
        Check.sentence(3, "BACK: the n of all back whose E holds, together");
        OneForDog x = Check.men(0, 0, 0, 0);
        Check.due("without a village", x.of(0, 5), 0);
        Check.village(x, "over 3 i=0");
        Check.due("by none", x.of(0, 5), 0);
        Check.village(x, "back 4 i=1");
        Check.due("by one that does not hold", x.of(0, 5), 0);
        Check.village(x, "back 99 i<2;back 99 i=0;back 99 i>0;back 9 i=1;over 50 i=0");
        Check.due("of(0, 5)", x.of(0, 5), 198);
        Check.due("of(1, 5)", x.of(1, 5), 207);
    }

    private static void tests() {
        Check.sentence(3, "a TEST: a letter, < or = or >, a number (1 or 2 digits)");
        OneForDog x = Check.men(0, 0, 5, 9, 1, 0, 2, 0, 3, 0, 6, 4);
        Check.village(x, "over 1 i<5;over 2 i<6;over 4 i=5;over 8 i>5;over 16 i>4;over 32 i=6");
        Check.due("i is 5", x.of(5, 4), 2 + 4 + 16);
        Check.village(x, "over 1 k<6;over 2 k<7;over 4 k=6;over 8 k>6;over 16 k>5;over 32 k=7");
        Check.due("k is 6", x.of(5, 4), 2 + 4 + 16);
        Check.village(x, "over 1 v<9;over 2 v<10;over 4 v=9;over 8 v>9;over 16 v>8;over 32 v=99");
        Check.due("v is 9", x.of(1, 4), 2 + 4 + 16);
        Check.village(x, "over 1 i<0;over 2 i<1;over 4 i=0;over 8 i>0;over 16 k=0;over 32 v=0");
        Check.due("all is 0", x.of(0, 4), 2 + 4 + 16 + 32);
    }

    private static void heapModulo() {
        Check.sentence(3, "h THE HEAP as he wakes modulo 10");
        OneForDog x = Check.men(0, 0);
        Check.village(x, "over 1 h=0;over 2 h=1;over 9 h=9;back 5 h>9;back 1 h<1");
        int[] heaps = {0, 1, 9, 10, 11, 19, 999990, 999999};
        int[] overs = {1, 2, 9, 1, 2, 9, 1, 9};
        for (int i = 0; i < heaps.length; i++) {
            x.heap(heaps[i]);
            Check.due("over by " + heaps[i], x.of(0, 4), overs[i]);
            Check.due("back by " + heaps[i], x.of(0, 5), overs[i] == 1 ? 1 : 0);
        }
    }

    private static void wakingsModulo() {
        Check.sentence(3, "w WAKINGS gone modulo 60");
        OneForDog x = Check.men(4, 0);
        Check.village(x, "over 2 w=0;over 4 w=1;over 6 w=59;over 8 w>59");
        for (int gone = 0; gone <= 121; gone++) {
            int of = gone % 60;
            int want = of == 0 ? 2 : of == 1 ? 4 : of == 59 ? 6 : 0;
            Check.due("over behind " + gone, x.of(0, 4), want);
            x.heap(10);
            Check.due("waking " + gone, x.wake(0), 0);
        }
    }

    private static void comesOutNow() {
        Check.sentence(3, "6 whether a WAKING of his COMES OUT now");
        OneForDog x = Check.men(0, 0);
        int[] heaps = {0, 1, 2, 3, 4, 999997, 999998, 999999};
        int[] comesOut = {0, 1, 0, 0, 1, 1, 0, 0};
        for (int i = 0; i < heaps.length; i++) {
            x.heap(heaps[i]);
            Check.due("from " + heaps[i], x.of(0, 6), comesOut[i]);
            Check.due("it stays", x.told(2), heaps[i]);
        }
    }

    private static void heapBounds() {
        Check.sentence(4, "THE HEAP becomes n (0 .. 999999)");
        OneForDog x = new OneForDog();
        x.heap(999999);
        Check.due("the most", x.told(2), 999999);
        x.heap(0);
        Check.due("the least", x.told(2), 0);
    }

    private static void heapBad() {
        Check.sentence(4, "BAD");
        OneForDog x = new OneForDog();
        x.heap(7);
        int[] bad = {-1, 1000000, LOWEST, HIGHEST};
        for (int n : bad) {
            Check.due("heap(" + n + ")", x.heap(n), -2);
            Check.due("it stays", x.told(2), 7);
        }
    }

    private static void heapWas() {
        Check.sentence(4, "what it was");
        OneForDog x = new OneForDog();
        Check.due("heap(999999)", x.heap(999999), 0);
        Check.due("heap(-1)", x.heap(-1), -2);
        Check.due("heap(0)", x.heap(0), 999999);
        Check.due("heap(0) again", x.heap(0), 0);
    }

    private static void toldBounds() {
        Check.sentence(7, "What 0 SHARES, 1 MORNING, 2 THE HEAP, 3 THE DOG's, 4 WAKINGS");
        OneForDog x = Check.men(4, 0);
        Check.village(x, "men 7;morning 8;over 9 i=0");
        x.heap(999999);
        Check.due("wake(0)", x.wake(0), 0);
        int[] due = {7, 8, 999990, 9, 1};
        for (int what = 0; what < due.length; what++) {
            Check.due("told(" + what + ")", x.told(what), due[what]);
        }
    }

    private static void toldNone() {
        Check.sentence(7, "NONE");
        OneForDog x = new OneForDog();
        int[] nothing = {-1, 5, LOWEST, HIGHEST};
        for (int what : nothing) {
            Check.due("told(" + what + ")", x.told(what), -1);
        }
        Check.due("told(4)", x.told(4), 0);
    }

    private static void lastMen() {
        Check.sentence(7, "SHARES: the last men's n (3 without)");
        OneForDog x = new OneForDog();
        Check.due("no village", x.told(0), 3);
        Check.village(x, "morning 5");
        Check.due("no men", x.told(0), 3);
        Check.village(x, "men 9;men 4;morning 8;men 6;over 5 i=0");
        Check.due("the last of three", x.told(0), 6);
        Check.village(x, "men 99");
        Check.due("the most", x.told(0), 99);
        Check.village(x, "back 2 i=0");
        Check.due("no men in the newest", x.told(0), 3);
    }

    private static void sharesAtLeast() {
        Check.sentence(7, "2 at least");
        OneForDog x = Check.men(0, 0);
        for (int n = 0; n < 4; n++) {
            Check.village(x, "men 9;men " + n);
            Check.due("men " + n, x.told(0), Math.max(n, 2));
            Check.due("parts by men " + n, x.of(0, 3), Math.max(n, 2));
        }
    }

    private static void lastMorning() {
        Check.sentence(7, "MORNING (1 without): the last morning's n");
        OneForDog x = new OneForDog();
        Check.due("no village", x.told(1), 1);
        Check.village(x, "men 5");
        Check.due("no morning", x.told(1), 1);
        Check.village(x, "morning 7;men 3;morning 99;back 1 i=0");
        Check.due("the last of two", x.told(1), 99);
        Check.village(x, "morning 0");
        Check.due("none at all in the morning", x.told(1), 0);
    }
}
