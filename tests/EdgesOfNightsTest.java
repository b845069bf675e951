/** The boundary cases of promises 10 to 14: night, least, all, greatest, left. One test for each sentence. */
public final class EdgesOfNightsTest {
    private static final int LOWEST = Integer.MIN_VALUE, HIGHEST = Integer.MAX_VALUE;

    public static void main(String[] args) {
        nightBounds();
        nightBad();
        eachWaking();
        morningOrMore();
        sharesAlike();
        wakingsAsTheyAre();
        emptyRow();
        leastBounds();
        leastFromTo();
        leastNone();
        leastBad();
        allBounds();
        allBelow();
        allBad();
        greatestBounds();
        greatestBelow();
        greatestNone();
        greatestBad();
        leftOfHeap();
        leftOfDog();
        leftOfMan();
        leftNone();
        leftBad();
        leftMorning();
        Check.end();
    }

    private static void nightBounds() {
        Check.sentence(10, "Whether THE NIGHT of a heap (0 .. 999999) COMES OUT: 1, 0");
        OneForDog x = new OneForDog();
        Check.village(x, "morning 0");
        Check.due("night(0)", x.night(0), 1);
        Check.due("night(1)", x.night(1), 0);
        Check.due("night(999998)", x.night(999998), 0);
        Check.due("night(999999)", x.night(999999), 1);
    }

    private static void nightBad() {
        Check.sentence(10, "BAD");
        OneForDog x = new OneForDog();
        Check.village(x, "morning 0");
        int[] bad = {-1, -3, 1000000, 1000002, LOWEST, HIGHEST};
        for (int heap : bad) {
            Check.due("night(" + heap + ")", x.night(heap), -2);
        }
    }

    private static void eachWaking() {
        Check.sentence(10, "each of THE ROW's WAKINGS COMES OUT");
        OneForDog x = Check.men(0, 0, 4, 8);
        Check.village(x, "men 2;morning 0;over 1 i=0;over 2 i=1");
        Check.row(x, 0, 1);
        // Of 25 the first leaves 12, of that the second 10: 10 parts of one.
        Check.due("all come out", x.night(25), 1);
        Check.due("the first does not", x.night(24), 0);
        Check.due("the second does not", x.night(29), 0);
        Check.row(x, 1, 0);
        Check.due("the first of the other order", x.night(25), 0);
        Check.due("the last of the other order", x.night(22), 0);
    }

    private static void morningOrMore() {
        Check.sentence(10, "(and is MORNING or more)");
        OneForDog x = Check.men(4, 1);
        Check.village(x, "morning 7;over 0 i=0");
        int[] heaps = {0, 1, 4, 6, 7, 8, 10};
        int[] comesOut = {0, 0, 0, 0, 1, 0, 1};
        for (int i = 0; i < heaps.length; i++) {
            Check.due("night(" + heaps[i] + ")", x.night(heaps[i]), comesOut[i]);
        }
        Check.village(x, "morning 99;men 2;over 3 i=0");
        Check.row(x, 0);
        Check.due("99 are left", x.night(102), 1);
        Check.due("96 are left", x.night(99), 0);
        Check.due("93 are left", x.night(96), 0);
        Check.due("105 are left", x.night(108), 1);
    }

    private static void sharesAlike() {
        Check.sentence(10, "THE HEAP less MORNING can be made into SHARES alike");
        OneForDog x = new OneForDog();
        Check.village(x, "men 99;morning 99");
        for (int heap = 97; heap < 300; heap++) {
            Check.due("night(" + heap + ")", x.night(heap), heap == 99 || heap == 198 || heap == 297 ? 1 : 0);
        }
    }

    private static void wakingsAsTheyAre() {
        Check.sentence(10, "(WAKINGS as they are)");
        OneForDog x = Check.men(4, 0);
        Check.village(x, "morning 0;men 2;over 0 w=0;over 2 w=59;over 4 w=1|w=60;over 6 w=58;over 9 w>1&w<58");
        Check.row(x, 0, 0);
        Check.due("by w 0 and 1", x.left(20, -2), 4);
        Check.due("night(4)", x.night(4), 1);
        Check.due("night(2)", x.night(2), 0);
        for (int gone = 0; gone < 59; gone++) {
            x.heap(99);
            x.heap(100 + x.of(0, 4));
            x.wake(0);
        }
        Check.due("59 gone", x.told(4), 59);
        Check.due("by w 59 and 0", x.left(20, -2), 2);
        Check.due("night(2) then", x.night(2), 1);
        Check.due("asking wakes nobody", x.told(4), 59);
    }

    private static void emptyRow() {
        Check.sentence(10, "none at first");
        OneForDog x = Check.men(0, 0);
        Check.due("nobody wakes: 1", x.night(1), 1);
        Check.due("nobody wakes: 3", x.night(3), 0);
        Check.due("nobody wakes: 4", x.night(4), 1);
    }

    private static void leastBounds() {
        Check.sentence(11, "LEAST from n (0 .. 9999)");
        OneForDog x = new OneForDog();
        Check.village(x, "morning 0");
        Check.due("least(0)", x.least(0), 0);
        Check.due("least(9999)", x.least(9999), 9999);
        Check.due("least(9998)", x.least(9998), 9999);
    }

    /** Eight wakings of one who shares by three: 3 to the power 9 apart come out, 19681 first. */
    private static OneForDog eightOfOne() {
        OneForDog x = Check.men(0, 0);
        Check.row(x, 0, 0, 0, 0, 0, 0, 0, 0);
        return x;
    }

    private static void leastFromTo() {
        Check.sentence(11, "the least heap of n .. n and 9999 for which THE NIGHT COMES OUT");
        OneForDog x = eightOfOne();
        Check.due("the last place looked at", x.least(9682), 19681);
        Check.due("the last n", x.least(9999), 19681);
        Check.row(x, 0, 0, 0);
        Check.due("n itself", x.least(79), 79);
        Check.due("one ahead of it", x.least(78), 79);
        Check.due("one behind it", x.least(80), 160);
        Check.due("from 0", x.least(0), 79);
    }

    private static void leastNone() {
        Check.sentence(11, "for which THE NIGHT COMES OUT (-5: none)");
        OneForDog x = eightOfOne();
        Check.due("one short of it", x.least(9681), -5);
        Check.due("from 0", x.least(0), -5);
    }

    private static void leastBad() {
        Check.sentence(11, "BAD");
        OneForDog x = new OneForDog();
        int[] bad = {-1, 10000, LOWEST, HIGHEST};
        for (int n : bad) {
            Check.due("least(" + n + ")", x.least(n), -2);
        }
    }

    private static void allBounds() {
        Check.sentence(12, "ALL below n (1 .. 9999)");
        OneForDog x = new OneForDog();
        Check.village(x, "morning 0;men 2");
        Check.due("all(1)", x.all(1), 1);
        Check.due("all(9999)", x.all(9999), 5000);
    }

    private static void allBelow() {
        Check.sentence(12, "how many heaps of 0 .. n less 1 there are such");
        OneForDog x = new OneForDog();
        Check.due("0 does not come out", x.all(1), 0);
        Check.due("1 is not below 1, but below 2", x.all(2), 1);
        Check.due("4 is not below 4", x.all(4), 1);
        Check.due("4 is below 5", x.all(5), 2);
        Check.due("9997 is not below 9997", x.all(9997), 3332);
        Check.due("9997 is below 9998", x.all(9998), 3333);
        OneForDog y = eightOfOne();
        Check.due("none at all", y.all(9999), 0);
    }

    private static void allBad() {
        Check.sentence(12, "BAD");
        OneForDog x = new OneForDog();
        int[] bad = {0, -1, 10000, LOWEST, HIGHEST};
        for (int n : bad) {
            Check.due("all(" + n + ")", x.all(n), -2);
        }
    }

    private static void greatestBounds() {
        Check.sentence(13, "GREATEST below n (1 .. 9999)");
        OneForDog x = new OneForDog();
        Check.village(x, "morning 0;men 2");
        Check.due("greatest(1)", x.greatest(1), 0);
        Check.due("greatest(9999)", x.greatest(9999), 9998);
    }

    private static void greatestBelow() {
        Check.sentence(13, "GREATEST below n");
        OneForDog x = Check.men(0, 0);
        Check.due("greatest(4)", x.greatest(4), 1);
        Check.due("greatest(5)", x.greatest(5), 4);
        Check.due("greatest(9997)", x.greatest(9997), 9994);
        Check.due("greatest(9998)", x.greatest(9998), 9997);
        Check.row(x, 0, 0, 0);
        Check.due("greatest(80)", x.greatest(80), 79);
        Check.due("greatest(161)", x.greatest(161), 160);
        Check.due("greatest(160)", x.greatest(160), 79);
    }

    private static void greatestNone() {
        Check.sentence(13, "of these (-5: none)");
        OneForDog x = Check.men(0, 0);
        Check.due("greatest(1)", x.greatest(1), -5);
        Check.row(x, 0, 0, 0);
        Check.due("greatest(79)", x.greatest(79), -5);
        OneForDog y = eightOfOne();
        Check.due("greatest(9999)", y.greatest(9999), -5);
    }

    private static void greatestBad() {
        Check.sentence(13, "BAD");
        OneForDog x = new OneForDog();
        int[] bad = {0, -1, 10000, LOWEST, HIGHEST};
        for (int n : bad) {
            Check.due("greatest(" + n + ")", x.greatest(n), -2);
        }
    }

    private static void leftOfHeap() {
        Check.sentence(14, "-1 THE HEAP (-5)");
        OneForDog x = Check.men(0, 0);
        Check.due("an empty row, of 0", x.left(0, -1), 0);
        Check.due("an empty row, of 999999", x.left(999999, -1), 999999);
        x.row(0);
        Check.due("of 0", x.left(0, -1), -5);
        Check.due("of 1", x.left(1, -1), 0);
        Check.due("of 999997", x.left(999997, -1), 666664);
        Check.due("of 999999", x.left(999999, -1), -5);
        x.row(0);
        Check.due("the second does not come out", x.left(4, -1), -5);
        Check.due("the second comes out", x.left(7, -1), 2);
        Check.due("the heap stays", x.told(2), 0);
    }

    private static void leftOfDog() {
        Check.sentence(14, "-2 THE DOG's part");
        OneForDog x = Check.men(0, 0);
        Check.due("an empty row", x.left(999999, -2), 0);
        Check.row(x, 0, 0);
        Check.due("by two", x.left(7, -2), 2);
        Check.due("it does not come out", x.left(4, -2), -5);
        x.heap(4);
        x.wake(0);
        Check.due("what he had ahead does not matter", x.left(7, -2), 2);
        Check.due("he had 1", x.told(3), 1);
    }

    private static void leftOfMan() {
        Check.sentence(14, "0 .. 5 what that MAN HIDES (-5, if it does not come out)");
        OneForDog x = Check.men(0, 0, 0, 0, 4, 1, 4, 1, 4, 1, 3, 0);
        Check.due("an empty row, 0", x.left(79, 0), 0);
        Check.due("an empty row, 5", x.left(79, 5), 0);
        Check.row(x, 0, 1, 0);
        Check.due("twice in the row", x.left(79, 0), 26 + 11);
        Check.due("once in the row", x.left(79, 1), 17);
        Check.due("not in the row", x.left(79, 5), 0);
        for (int man = 0; man < 6; man++) {
            Check.due("it does not come out for " + man, x.left(78, man), -5);
        }
        Check.row(x, 5);
        Check.due("the sixth", x.left(79, 5), 39);
        x.heap(79);
        x.wake(5);
        Check.due("what he hid ahead does not matter", x.left(79, 5), 39);
    }

    private static void leftNone() {
        Check.sentence(14, "-10001: NONE: what");
        OneForDog x = Check.men(0, 0, 0, 0);
        int[] nothing = {-3, 2, 5, 6, LOWEST, HIGHEST};
        for (int what : nothing) {
            Check.due("left(79, " + what + ")", x.left(79, what), -10001);
            Check.due("left(-1, " + what + ")", x.left(-1, what), -10001);
        }
        Check.due("the last man", x.left(79, 1), 0);
    }

    private static void leftBad() {
        Check.sentence(14, "-10002: BAD");
        OneForDog x = Check.men(0, 0);
        int[] bad = {-1, 1000000, LOWEST, HIGHEST};
        for (int heap : bad) {
            for (int what = -2; what < 1; what++) {
                Check.due("left(" + heap + ", " + what + ")", x.left(heap, what), -10002);
            }
        }
    }

    private static void leftMorning() {
        Check.sentence(14, "(-5: it does not come out; MORNING does not matter)");
        OneForDog x = Check.men(0, 0);
        Check.village(x, "morning 99");
        Check.row(x, 0);
        Check.due("less than MORNING is left", x.left(4, -1), 2);
        Check.due("the dog's", x.left(4, -2), 1);
        Check.due("his", x.left(4, 0), 1);
        Check.due("but the night does not come out", x.night(4), 0);
        Check.due("what is left can't be made into SHARES", x.left(151, -1), 100);
        Check.due("but its night does not come out", x.night(151), 0);
    }
}
