/** The boundary cases of promises 8 and 9: wake, row. One test for each sentence. */
public final class EdgesOfWakingsTest {
    private static final int LOWEST = Integer.MIN_VALUE, HIGHEST = Integer.MAX_VALUE;

    public static void main(String[] args) {
        wakeNone();
        doesNotComeOut();
        as9999();
        goOnBeyond();
        overOrMore();
        nothingLeft();
        dogHasMore();
        lessBackOfOnePart();
        lessBackOfTwoParts();
        honestHidesNothing();
        allPartsAtMost();
        twiceIfItComesOut();
        overAndBackAnew();
        wakingsTheSame();
        oneWakingMore();
        theRest();
        whatHeHides();
        rowCounts();
        rowEmpty();
        rowNone();
        rowFull();
        moreThanOnce();
        rowFirstNamed();
        Check.end();
    }

    private static void wakeNone() {
        Check.sentence(8, "NONE");
        OneForDog x = Check.men(0, 0, 0, 0);
        x.heap(4);
        int[] nobody = {-1, 2, 6, LOWEST, HIGHEST};
        for (int man : nobody) {
            Check.due("wake(" + man + ")", x.wake(man), -1);
        }
        Check.due("heap", x.told(2), 4);
        Check.due("wakings", x.told(4), 0);
        x.heap(3);
        Check.due("nobody, and it would not come out", x.wake(2), -1);
        x.heap(4);
        Check.due("the last man", x.wake(1), 1);
    }

    private static void doesNotComeOut() {
        Check.sentence(8, "STATE: it does not come out");
        OneForDog x = Check.men(0, 0, 1, 5, 2, 0, 3, 0, 4, 5, 6, 0);
        int[] heaps = {0, 3, 30, 999999};
        for (int heap : heaps) {
            x.heap(heap);
            for (int man = 0; man < 6; man++) {
                // Of 3 and 999999 the halving one and the liar, who halves, too, can make two.
                boolean halves = (man == 3 || man == 5) && heap % 2 == 1;
                Check.due("of(" + man + ", 6) from " + heap, x.of(man, 6), halves ? 1 : 0);
                if (!halves) {
                    Check.due("wake(" + man + ") from " + heap, x.wake(man), -3);
                }
            }
            Check.due("heap", x.told(2), heap);
        }
        Check.due("dog", x.told(3), 0);
        Check.due("wakings", x.told(4), 0);
        for (int man = 0; man < 6; man++) {
            Check.due("hidden by " + man, x.of(man, 2), 0);
        }
    }

    /** Behind the 512th call nothing is promised; no other run of calls shows what the document names here. */
    private static OneForDog behind9999() {
        OneForDog x = Check.men(4, 0);
        Check.village(x, "over 0 w<60;over 1 w=39;over 2 w=40");
        Check.row(x, 0, 0);
        int refused = 0;
        for (int gone = 0; gone < 9999; gone++) {
            x.heap(gone % 60 == 39 ? 1 : 2);
            if (x.wake(0) != 0) {
                refused++;
            }
        }
        Check.due("refused of 9999", refused, 0);
        return x;
    }

    private static void as9999() {
        Check.sentence(8, "or there were 9999");
        OneForDog x = behind9999();
        Check.due("wakings", x.told(4), 9999);
        x.heap(1);
        Check.due("one more", x.wake(0), -3);
        Check.due("wakings still", x.told(4), 9999);
        Check.due("heap still", x.told(2), 1);
    }

    private static void goOnBeyond() {
        Check.sentence(14, "(WAKINGS go on beyond 9999 there)");
        OneForDog x = behind9999();
        Check.due("w 39 behind 9999, then w 40: the dog's", x.left(13, -2), 3);
        Check.due("w 39 behind 9999, then w 40: the rest", x.left(13, -1), 10);
    }

    /** A waking of a man of this kind from a heap: what he hides, what is left, what the dog has. */
    private static void wakes(String village, int kind, int v, int heap, int hides, int left, int dogs) {
        OneForDog x = Check.men(kind, v);
        if (!village.isEmpty()) {
            Check.due(village, Check.village(x, village), 0);
        }
        x.heap(heap);
        String call = "kind " + kind + " from " + heap + " by '" + village + "'";
        Check.due(call, x.wake(0), hides);
        Check.due(call + ": heap", x.told(2), left);
        Check.due(call + ": dog", x.told(3), dogs);
        Check.due(call + ": hidden", x.of(0, 2), hides);
        Check.due(call + ": wakings", x.told(4), 1);
    }

    private static void refuses(String village, int kind, int v, int heap) {
        OneForDog x = Check.men(kind, v);
        Check.village(x, village);
        x.heap(heap);
        String call = "kind " + kind + " from " + heap + " by '" + village + "'";
        Check.due(call, x.wake(0), -3);
        Check.due(call + ": of", x.of(0, 6), 0);
        Check.due(call + ": heap", x.told(2), heap);
        Check.due(call + ": dog", x.told(3), 0);
        Check.due(call + ": wakings", x.told(4), 0);
    }

    private static void overOrMore() {
        Check.sentence(8, "if THE HEAP is OVER or more");
        wakes("over 99 i=0;over 9 i=0", 0, 0, 108, 0, 0, 108);
        refuses("over 99 i=0;over 9 i=0", 0, 0, 107);
        refuses("over 99 i=0;over 9 i=0", 0, 0, 105);
        refuses("over 99 i=0;over 9 i=0", 0, 0, 0);
        wakes("over 99 i=0;over 9 i=0", 0, 0, 111, 1, 2, 108);
        wakes("over 5 i=0", 3, 0, 5, 0, 0, 5);
        refuses("over 5 i=0", 3, 0, 3);
        wakes("over 0 i=0", 0, 0, 0, 0, 0, 0);
    }

    private static void nothingLeft() {
        Check.sentence(8, "what is more than OVER can be made into PARTS alike with nothing left");
        for (int more = 0; more <= 22; more++) {
            String village = "men 7;over 3 i=0";
            if (more % 7 == 0) {
                wakes(village, 0, 0, 3 + more, more / 7, more - more / 7, 3);
            } else {
                refuses(village, 0, 0, 3 + more);
            }
            if (more % 11 == 0) {
                wakes(village, 1, 9, 3 + more, more / 11, more - more / 11, 3);
            } else {
                refuses(village, 1, 9, 3 + more);
            }
        }
        wakes("over 0 i=0", 0, 0, 999999, 333333, 666666, 0);
        wakes("men 99;over 99 i=0", 0, 0, 99, 0, 0, 99);
        wakes("men 99;over 99 i=0", 0, 0, 198, 1, 98, 99);
    }

    private static void dogHasMore() {
        Check.sentence(8, "Then THE DOG has OVER more");
        OneForDog x = Check.men(0, 0);
        Check.village(x, "over 0 h=0;over 4 h=4;over 99 h=9");
        int[] heaps = {4, 99, 30, 4};
        int[] dogs = {4, 103, 103, 107};
        for (int i = 0; i < heaps.length; i++) {
            x.heap(heaps[i]);
            Check.due("wake from " + heaps[i], x.wake(0), heaps[i] == 30 ? 10 : 0);
            Check.due("dog", x.told(3), dogs[i]);
        }
    }

    private static void lessBackOfOnePart() {
        Check.sentence(8, "MAN, SHARING, HALVING: a PART less BACK (0 at least)");
        int[] kinds = {0, 1, 3};
        int[] parts = {10, 6, 15};
        for (int i = 0; i < kinds.length; i++) {
            int part = parts[i];
            wakes("back 0 i=0", kinds[i], 3, 31, part, 30 - part, 1);
            wakes("back " + (part - 1) + " i=0", kinds[i], 3, 31, 1, 29, 1);
            wakes("back " + part + " i=0", kinds[i], 3, 31, 0, 30, 1);
            wakes("back " + (part + 1) + " i=0", kinds[i], 3, 31, 0, 30, 1);
            wakes("back 99 i=0", kinds[i], 3, 31, 0, 30, 1);
            wakes("back 1 i=0", kinds[i], 3, 1, 0, 0, 1);
        }
    }

    private static void lessBackOfTwoParts() {
        Check.sentence(8, "DOUBLE: two PARTS less BACK (0 at least)");
        wakes("back 0 i=0", 2, 0, 31, 20, 10, 1);
        wakes("back 10 i=0", 2, 0, 31, 10, 20, 1);
        wakes("back 19 i=0", 2, 0, 31, 1, 29, 1);
        wakes("back 20 i=0", 2, 0, 31, 0, 30, 1);
        wakes("back 21 i=0", 2, 0, 31, 0, 30, 1);
        wakes("men 1", 2, 0, 31, 30, 0, 1);
        wakes("back 1 i=0", 2, 0, 1, 0, 0, 1);
    }

    private static void honestHidesNothing() {
        Check.sentence(8, "HONEST: nothing");
        wakes("", 4, 3, 31, 0, 30, 1);
        wakes("back 99 i=0", 4, 3, 31, 0, 30, 1);
        wakes("", 4, 3, 1, 0, 0, 1);
        wakes("over 0 i=0", 4, 9, 999988, 0, 999988, 0);
    }

    private static void allPartsAtMost() {
        Check.sentence(8, "LIAR: a PART and BACK, together (all PARTS at most)");
        wakes("back 0 i=0", 6, 9, 31, 15, 15, 1);
        wakes("back 14 i=0", 6, 9, 31, 29, 1, 1);
        wakes("back 15 i=0", 6, 9, 31, 30, 0, 1);
        wakes("back 16 i=0", 6, 9, 31, 30, 0, 1);
        wakes("back 99 i=0", 6, 9, 31, 30, 0, 1);
        wakes("back 99 i=0", 6, 9, 1, 0, 0, 1);
    }

    private static void twiceIfItComesOut() {
        Check.sentence(8, "and the same again at once, if it COMES OUT then, too");
        wakes("", 5, 0, 31, 20 + 6, 3, 2);
        wakes("", 5, 0, 28, 18, 9, 1);
        wakes("", 5, 0, 4, 2, 0, 2);
        // Nothing is left for the dog then.
        wakes("", 5, 0, 1, 0, 0, 1);
        wakes("over 1 h=4;over 4 h=1", 5, 0, 4, 2, 1, 1);
        wakes("over 1 h=4;over 1 h=1", 5, 0, 4, 2, 0, 2);
        wakes("over 0 i=0", 5, 0, 0, 0, 0, 0);
        wakes("men 2", 5, 0, 3, 2, 0, 1);
        // Once more, and not a third time: 27 leaves 9, then 3, then it would be 1.
        wakes("over 0 i=0", 5, 0, 27, 18 + 6, 3, 0);
        wakes("back 20 i=0", 5, 0, 31, 0, 30, 1);
    }

    private static void overAndBackAnew() {
        Check.sentence(8, "(OVER and BACK anew, by THE HEAP as it is then; WAKINGS the same)");
        wakes("over 1 h=1;over 4 h=0", 5, 0, 31, 20 + 4, 2, 5);
        wakes("over 1 h=1;over 0 h=0;back 2 h=1", 5, 0, 31, 18 + 8, 4, 1);
        wakes("over 1 h=1;back 2 h=1;back 3 h=2", 5, 0, 31, 18 + 5, 7, 1);
    }

    private static void wakingsTheSame() {
        Check.sentence(8, "WAKINGS the same");
        wakes("over 1 w=0;over 50 w=1;back 5 w>0", 5, 0, 31, 26, 3, 2);
    }

    private static void oneWakingMore() {
        Check.sentence(8, "WAKINGS are 1 more");
        OneForDog x = Check.men(5, 0, 4, 1);
        x.heap(31);
        x.wake(0);
        Check.due("behind one who wakes twice", x.told(4), 1);
        x.wake(0);
        Check.due("behind a refused waking", x.told(4), 1);
        x.heap(1);
        x.wake(1);
        Check.due("behind an honest one", x.told(4), 2);
    }

    private static void theRest() {
        Check.sentence(8, "THE HEAP is the rest");
        wakes("back 15 i=0", 6, 0, 31, 30, 0, 1);
        wakes("over 31 i=0", 0, 0, 31, 0, 0, 31);
        wakes("", 3, 0, 999999, 499999, 499999, 1);
        OneForDog x = Check.men(0, 0);
        x.heap(79);
        int[] left = {52, 34, 22, 14};
        for (int heap : left) {
            x.wake(0);
            Check.due("heap", x.told(2), heap);
        }
        Check.due("14 does not come out", x.wake(0), -3);
        Check.due("hidden together", x.of(0, 2), 26 + 17 + 11 + 7);
    }

    private static void whatHeHides() {
        Check.sentence(8, "A WAKING: what he HIDES by it");
        OneForDog x = Check.men(0, 0, 0, 0);
        x.heap(79);
        Check.due("the first", x.wake(0), 26);
        Check.due("the second, by this one alone", x.wake(0), 17);
        Check.due("the other one, by his alone", x.wake(1), 11);
        Check.due("HIDDEN by both of the first", x.of(0, 2), 43);
        Check.due("HIDDEN by the other one", x.of(1, 2), 11);
    }

    private static void rowCounts() {
        Check.sentence(9, "A MAN comes to THE ROW: how many it has");
        OneForDog x = Check.men(0, 0, 3, 0);
        Check.due("none at first", x.count(2), 0);
        Check.due("the first", x.row(1), 1);
        Check.due("the second", x.row(0), 2);
        Check.due("count(2)", x.count(2), 2);
        // Of 21 the halving one leaves 10, of that the other one 6.
        Check.due("in this order", x.left(21, -1), 6);
    }

    private static void rowEmpty() {
        Check.sentence(9, "(-1: none then, 0)");
        OneForDog x = Check.men(0, 0);
        Check.due("of an empty one", x.row(-1), 0);
        Check.row(x, 0, 0, 0, 0, 0, 0, 0, 0);
        Check.due("of a full one", x.row(-1), 0);
        Check.due("count(2)", x.count(2), 0);
        Check.due("nobody wakes", x.left(30, -1), 30);
        Check.due("again", x.row(-1), 0);
        Check.due("the first", x.row(0), 1);
        Check.due("he alone wakes", x.left(79, -1), 52);
    }

    private static void rowNone() {
        Check.sentence(9, "NONE");
        OneForDog x = Check.men(0, 0, 0, 0);
        x.row(0);
        int[] nobody = {-2, 2, 6, LOWEST, HIGHEST};
        for (int man : nobody) {
            Check.due("row(" + man + ")", x.row(man), -1);
            Check.due("count(2)", x.count(2), 1);
        }
        Check.due("the last man", x.row(1), 2);
    }

    private static void rowFull() {
        Check.sentence(9, "FULL: 8");
        OneForDog x = Check.men(4, 0, 3, 0);
        for (int i = 1; i <= 8; i++) {
            Check.due("row " + i, x.row(0), i);
        }
        Check.due("a ninth", x.row(1), -4);
        Check.due("eight", x.count(2), 8);
        Check.village(x, "over 0 i=0");
        Check.due("the ninth does not wake", x.left(8, -1), 8);
        Check.due("emptied", x.row(-1), 0);
        Check.due("the first", x.row(1), 1);
    }

    private static void moreThanOnce() {
        Check.sentence(9, "one may be in it more than once");
        OneForDog x = Check.men(0, 0);
        for (int i = 1; i <= 8; i++) {
            Check.due("row " + i, x.row(0), i);
        }
        Check.due("eight times he", x.left(6559, -1), 254);
        Check.due("what he hides by all", x.left(6559, 0), 6559 - 254 - 8);
    }

    private static void rowFirstNamed() {
        Check.sentence(9, "the first that a call's words name");
        OneForDog x = Check.men(0, 0);
        Check.row(x, 0, 0, 0, 0, 0, 0, 0, 0);
        Check.due("nobody to a full row", x.row(1), -1);
        Check.due("-2 to a full row", x.row(-2), -1);
        Check.due("one to a full row", x.row(0), -4);
    }
}
