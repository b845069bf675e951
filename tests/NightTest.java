/** Promises 8 to 14: wake, row, night, least, all, greatest, left. */
public final class NightTest {
    public static void main(String[] args) {
        wakeOfKinds();
        wakeByBack();
        wakeTwice();
        wakeNot();
        row();
        night();
        nightByWakings();
        least();
        allAndGreatest();
        left();
        leftOfKinds();
        Check.end();
    }

    /** A waking of a man of this kind from a heap: what he hides, what is left, what the dog has. */
    private static void wakes(String village, int kind, int v, int heap, int hides, int left, int dogs) {
        OneForDog x = Check.men(kind, v);
        if (!village.isEmpty()) {
            Check.due(village, Check.village(x, village), 0);
        }
        x.heap(heap);
        String call = "kind " + kind + " from " + heap + " by '" + village + "'";
        Check.due(call, x.wake(0), hides);
        Check.due(call + ": heap", x.told(2), left);
        Check.due(call + ": dog", x.told(3), dogs);
        Check.due(call + ": hidden", x.of(0, 2), hides);
        Check.due(call + ": wakings", x.told(4), 1);
    }

    private static void wakeOfKinds() {
        wakes("", 0, 0, 1, 0, 0, 1);
        wakes("", 0, 0, 31, 10, 20, 1);
        wakes("", 1, 3, 31, 6, 24, 1);
        wakes("", 1, 0, 31, 15, 15, 1);
        wakes("", 2, 3, 31, 20, 10, 1);
        wakes("", 3, 3, 31, 15, 15, 1);
        wakes("", 4, 3, 31, 0, 30, 1);
        wakes("", 6, 3, 31, 15, 15, 1);
        wakes("men 5", 0, 0, 31, 6, 24, 1);
        wakes("men 5", 2, 0, 31, 12, 18, 1);
        wakes("men 5", 3, 0, 31, 15, 15, 1);
        wakes("over 4 i=0", 0, 0, 31, 9, 18, 4);
        wakes("over 31 i=0", 0, 0, 31, 0, 0, 31);
        wakes("over 31 i=1", 4, 1, 999999, 0, 999999, 0);
        wakes("", 0, 0, 999999 - 2, 333332, 666664, 1);
    }

    private static void wakeByBack() {
        wakes("back 4 i=0", 0, 0, 31, 6, 24, 1);
        wakes("back 10 i=0", 0, 0, 31, 0, 30, 1);
        wakes("back 11 i=0", 0, 0, 31, 0, 30, 1);
        wakes("back 2 i=0", 1, 3, 31, 4, 26, 1);
        wakes("back 7 i=0", 1, 3, 31, 0, 30, 1);
        wakes("back 4 i=0", 2, 3, 31, 16, 14, 1);
        wakes("back 21 i=0", 2, 3, 31, 0, 30, 1);
        wakes("back 4 i=0", 3, 3, 31, 11, 19, 1);
        wakes("back 4 i=0", 4, 3, 31, 0, 30, 1);
        wakes("back 4 i=0", 6, 3, 31, 19, 11, 1);
        wakes("back 15 i=0", 6, 3, 31, 30, 0, 1);
        wakes("back 16 i=0", 6, 3, 31, 30, 0, 1);
        wakes("back 4 i=0;back 3 h=1;back 9 h=2", 0, 0, 31, 3, 27, 1);
    }

    private static void wakeTwice() {
        wakes("", 5, 0, 4, 2, 0, 2);
        wakes("", 5, 0, 28, 18, 9, 1);
        wakes("", 5, 0, 31, 20 + 6, 3, 2);
        wakes("", 5, 0, 91, 60, 30, 1);
        wakes("", 5, 0, 94, 62 + 20, 10, 2);
        wakes("over 1 h=1;over 4 h=0", 5, 0, 31, 20 + 4, 2, 5);
        wakes("back 2 h=1;back 9 h=2", 5, 0, 31, 18, 12, 1);
        wakes("back 2 h=1;back 3 h=2;over 1 h=1", 5, 0, 31, 18 + 5, 7, 1);
        wakes("over 1 w=0;over 50 w=1", 5, 0, 31, 26, 3, 2);
    }

    private static void wakeNot() {
        OneForDog x = Check.men(0, 0, 3, 0);
        Check.due("wake(-1)", x.wake(-1), -1);
        Check.due("wake(2)", x.wake(2), -1);
        Check.due("from 0", x.wake(0), -3);
        x.heap(30);
        Check.due("from 30", x.wake(0), -3);
        Check.due("heap", x.told(2), 30);
        Check.due("dog", x.told(3), 0);
        Check.due("wakings", x.told(4), 0);
        Check.due("hidden", x.of(0, 2), 0);
        x.heap(31);
        Check.due("from 31", x.wake(0), 10);
        x.heap(31);
        Check.due("from 31 again", x.wake(0), 10);
        Check.due("hidden by both", x.of(0, 2), 20);
        Check.due("hidden by the other", x.of(1, 2), 0);
        Check.due("dog by both", x.told(3), 2);
        x.heap(5);
        Check.village(x, "over 6 i=0");
        Check.due("less than is over", x.wake(0), -3);
        x.heap(3);
        Check.due("less than is over by a share", x.wake(0), -3);
        Check.due("nothing came of it", x.told(2), 3);
    }

    private static void row() {
        OneForDog x = Check.men(0, 0, 0, 0);
        Check.due("row(-2)", x.row(-2), -1);
        Check.due("row(2)", x.row(2), -1);
        Check.due("row(-1) at first", x.row(-1), 0);
        for (int i = 1; i <= 8; i++) {
            Check.due("row " + i, x.row(i % 2), i);
        }
        Check.due("a ninth", x.row(0), -4);
        Check.due("a ninth who is none", x.row(2), -1);
        Check.due("eight", x.count(2), 8);
        Check.due("row(-1)", x.row(-1), 0);
        Check.due("none", x.count(2), 0);
        Check.due("row(1)", x.row(1), 1);
    }

    private static void night() {
        OneForDog x = Check.men(0, 0, 0, 0, 0, 0);
        Check.due("night(-1)", x.night(-1), -2);
        Check.due("night(1000000)", x.night(1000000), -2);
        Check.due("night(0)", x.night(0), 0);
        Check.due("night(1)", x.night(1), 1);
        Check.due("night(2)", x.night(2), 0);
        Check.due("night(999999)", x.night(999999), 0);
        Check.due("night(999997)", x.night(999997), 1);
        Check.row(x, 0, 1, 2);
        Check.due("night(79)", x.night(79), 1);
        Check.due("night(78)", x.night(78), 0);
        Check.due("night(25): the morning fails", x.night(25), 0);
        Check.village(x, "morning 2");
        Check.due("night(25) by morning 2", x.night(25), 0);
        Check.due("night(52) by morning 2", x.night(52), 1);
        Check.due("night(79) by morning 2", x.night(79), 0);
        OneForDog y = Check.men(0, 0);
        Check.village(y, "morning 5;men 4");
        Check.due("5 less 5", y.night(5), 1);
        Check.due("1 is less than the morning", y.night(1), 0);
        Check.due("9 less 5", y.night(9), 1);
        Check.due("10 less 5", y.night(10), 0);
        Check.village(y, "morning 0;men 2");
        Check.due("0 less 0", y.night(0), 1);
        Check.due("1 less 0", y.night(1), 0);
        Check.row(y, 0, 0);
        Check.due("one twice in the row", y.night(7), 0);
        Check.due("7 wakes to 3 to 1", y.left(7, -1), 1);
        Check.due("3 wakes to 1 to 0", y.night(3), 1);
    }

    private static void nightByWakings() {
        OneForDog x = Check.men(4, 0);
        Check.village(x, "over 1 w=0;over 2 w=1;over 6 w>1;morning 2");
        Check.row(x, 0, 0);
        Check.due("first by w 0 and 1", x.left(11, -2), 3);
        Check.due("the night by w 0 and 1", x.night(11), 1);
        x.heap(11);
        x.wake(0);
        Check.due("one waking on", x.left(11, -2), -5);
        Check.due("the night one waking on", x.night(11), 0);
        Check.due("one waking on, from 12", x.left(12, -2), 8);
        Check.due("asking did nothing", x.told(4), 1);
    }

    private static void least() {
        OneForDog x = Check.men(0, 0, 0, 1, 0, 2);
        Check.due("least(-1)", x.least(-1), -2);
        Check.due("least(10000)", x.least(10000), -2);
        Check.due("least(0)", x.least(0), 1);
        Check.due("least(1)", x.least(1), 1);
        Check.due("least(2)", x.least(2), 4);
        Check.due("least(9999)", x.least(9999), 10000);
        Check.row(x, 0, 1, 2);
        Check.due("least(0) of three", x.least(0), 79);
        Check.due("least(79) of three", x.least(79), 79);
        Check.due("least(80) of three", x.least(80), 160);
        Check.row(x, 0, 1, 2, 0, 1, 2, 0, 1);
        Check.due("least(0) of eight", x.least(0), -5);
        Check.due("least(9682) of eight", x.least(9682), 19681);
        Check.due("least(9681) of eight", x.least(9681), -5);
    }

    private static void allAndGreatest() {
        OneForDog x = Check.men(0, 0, 0, 1, 0, 2);
        int[] bad = {0, -1, 10000};
        for (int n : bad) {
            Check.due("all(" + n + ")", x.all(n), -2);
            Check.due("greatest(" + n + ")", x.greatest(n), -2);
        }
        Check.due("all(1)", x.all(1), 0);
        Check.due("greatest(1)", x.greatest(1), -5);
        Check.due("all(2)", x.all(2), 1);
        Check.due("greatest(2)", x.greatest(2), 1);
        Check.due("all(4)", x.all(4), 1);
        Check.due("greatest(4)", x.greatest(4), 1);
        Check.due("all(5)", x.all(5), 2);
        Check.due("greatest(5)", x.greatest(5), 4);
        Check.due("all(9999)", x.all(9999), 3333);
        Check.due("greatest(9999)", x.greatest(9999), 9997);
        Check.row(x, 0, 1, 2);
        Check.due("all(79) of three", x.all(79), 0);
        Check.due("greatest(79) of three", x.greatest(79), -5);
        Check.due("all(80) of three", x.all(80), 1);
        Check.due("greatest(80) of three", x.greatest(80), 79);
        Check.village(x, "morning 0;over 0 i=0");
        Check.row(x);
        Check.due("0 is a heap, too", x.all(1), 1);
        Check.due("0 is the greatest", x.greatest(1), 0);
    }

    private static void left() {
        OneForDog x = Check.men(0, 0, 0, 1, 0, 2);
        Check.due("no row: the heap", x.left(999999, -1), 999999);
        Check.due("no row: the dog", x.left(5, -2), 0);
        Check.due("no row: a man", x.left(5, 2), 0);
        Check.row(x, 0, 1, 0);
        Check.due("left(-1, -1)", x.left(-1, -1), -10002);
        Check.due("left(1000000, -1)", x.left(1000000, -1), -10002);
        Check.due("left(79, -3)", x.left(79, -3), -10001);
        Check.due("left(79, 3)", x.left(79, 3), -10001);
        Check.due("left(-1, 3): what is named first", x.left(-1, 3), -10001);
        Check.due("heap", x.left(79, -1), 22);
        Check.due("dog", x.left(79, -2), 3);
        Check.due("man 0, twice", x.left(79, 0), 26 + 11);
        Check.due("man 1", x.left(79, 1), 17);
        Check.due("man 2", x.left(79, 2), 0);
        for (int what = -2; what < 3; what++) {
            Check.due("does not come out: " + what, x.left(78, what), -5);
        }
        Check.due("the morning does not matter", x.left(25, -1), 6);
        Check.due("though the night does not come out", x.night(25), 0);
        x.heap(79);
        x.wake(0);
        Check.due("the dog by these alone", x.left(79, -2), 3);
        Check.due("man 0 by these alone", x.left(79, 0), 37);
        Check.due("asking did nothing: heap", x.told(2), 52);
        Check.due("asking did nothing: hidden", x.of(0, 2), 26);
    }

    private static void leftOfKinds() {
        OneForDog x = Check.men(1, 1, 2, 0, 3, 0, 4, 1, 5, 0, 6, 0);
        Check.row(x, 4);
        Check.due("twice: heap", x.left(31, -1), 3);
        Check.due("twice: dog", x.left(31, -2), 2);
        Check.due("twice: hides", x.left(31, 4), 26);
        Check.row(x, 3, 2);
        Check.due("honest, halving: heap", x.left(34, -1), 16);
        Check.due("honest, halving: dog", x.left(34, -2), 2);
        Check.due("honest hides", x.left(34, 3), 0);
        Check.due("halving hides", x.left(34, 2), 16);
        Check.row(x, 5, 0);
        Check.due("liar, sharing: heap", x.left(33, -1), 10);
        Check.due("liar hides", x.left(33, 5), 16);
        Check.due("sharing hides", x.left(33, 0), 5);
        Check.row(x, 3, 1);
        Check.due("honest, then double does not come out", x.left(34, 3), -5);
    }
}
