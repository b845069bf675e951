/** Promises 25 to 27: act, trace, taken. */
public final class ActTest {
    public static void main(String[] args) {
        noAct();
        bodies();
        wrapping();
        taken();
        Check.end();
    }

    private static void noAct() {
        OneForDog x = Check.men(0, 3, 6, 4);
        int[][] none = {{-1, 0}, {2, 0}, {0, -1}, {0, 3}, {7, 7}};
        for (int[] call : none) {
            x.act(1, 2, 9);
            Check.due("a trace ahead of it", x.trace(0), 40);
            Check.due("act(" + call[0] + ", " + call[1] + ")", x.act(call[0], call[1], 9), 0);
            Check.due("no trace then", x.trace(0), -1);
            Check.due("no bodies then", x.count(5), 0);
        }
    }

    /** Man 1 of this kind with v 6: what he answers to x, and the bodies that ran. */
    private static void acts(int kind, int act, int x, int want, int... trace) {
        OneForDog dog = Check.men(0, 0, kind, 6);
        String call = "kind " + kind + " act " + act + " x " + x;
        Check.due(call, dog.act(1, act, x), want);
        Check.due(call + ": bodies", dog.count(5), trace.length);
        for (int i = 0; i < trace.length; i++) {
            Check.due(call + ": body " + i, dog.trace(i), trace[i]);
        }
        Check.due(call + ": body -1", dog.trace(-1), -1);
        Check.due(call + ": no more bodies", dog.trace(trace.length), -1);
        Check.due(call + ": body 20", dog.trace(20), -1);
    }

    private static void bodies() {
        acts(0, 0, 7, 8, 10);
        acts(0, 1, 7, 2, 11, 10);
        acts(0, 2, 7, 4, 12, 11, 10);
        acts(1, 0, 7, 8, 10);
        acts(1, 1, 7, 2 ^ 6, 20, 11, 10);
        acts(1, 2, 7, (2 ^ 6) * 2, 12, 20, 11, 10);
        acts(2, 0, 7, 22, 30, 10);
        acts(2, 1, 7, 16, 11, 30, 10);
        acts(2, 2, 7, 32, 12, 11, 30, 10);
        acts(3, 0, 7, 8, 10);
        acts(3, 1, 7, 2, 11, 10);
        acts(3, 2, 7, 4 + (2 - 6), 40, 12, 11, 10, 11, 10);
        acts(4, 0, 7, -8, 50, 10);
        acts(4, 1, 7, (-9 - 6) ^ 6, 51, 20, 11, 50, 10);
        acts(4, 2, 7, ((-9 - 6) ^ 6) * 2, 12, 51, 20, 11, 50, 10);
        acts(5, 0, 7, 22, 30, 10);
        acts(5, 1, 7, 16, 11, 30, 10);
        acts(5, 2, 7, (19 - 6) * 2, 60, 12, 11, 30, 10);
        acts(6, 0, 7, 8 ^ 6, 71, 10);
        acts(6, 1, 7, (8 ^ 6) - 6 + 3, 70, 11, 71, 10, 10);
        acts(6, 2, 7, 11 * 2 + (2 ^ 6) - 6 + 3, 40, 12, 70, 11, 71, 10, 10, 70, 11, 71, 10, 10);
    }

    private static void wrapping() {
        OneForDog x = Check.men(0, 9, 2, 0, 4, 0, 0, 0);
        int most = Integer.MAX_VALUE;
        int least = Integer.MIN_VALUE;
        Check.due("wakes wraps", x.act(3, 0, most), least + 2);
        Check.due("hides wraps", x.act(0, 1, least), most - 8);
        Check.due("tells wraps", x.act(0, 2, 1 << 30), most + 1 - 18);
        Check.due("three times wraps", x.act(1, 0, most), most - 2 + 1);
        Check.due("the least turned about", x.act(2, 0, least - 2), least);
    }

    private static void taken() {
        OneForDog x = Check.men(1, 0, 2, 0, 3, 0, 4, 0, 5, 0, 6, 0);
        int[] above = {-1, 0, 0, 0, 1, 2, 3};
        for (int man = 0; man < 6; man++) {
            int kind = man + 1;
            for (int k = 0; k < 7; k++) {
                boolean under = k == kind || k == above[kind] || k == 0;
                Check.due("taken(" + man + ", " + k + ")", x.taken(man, k), under ? kind : -12);
            }
        }
        OneForDog y = Check.men(0, 0);
        for (int k = 0; k < 7; k++) {
            Check.due("a man taken for " + k, y.taken(0, k), k == 0 ? 0 : -12);
        }
        Check.due("k -1", y.taken(0, -1), -2);
        Check.due("k 7", y.taken(0, 7), -2);
        Check.due("k 7 of nobody", y.taken(9, 7), -2);
        Check.due("man 1", y.taken(1, 0), -11);
        Check.due("man -1", y.taken(-1, 6), -11);
    }
}
