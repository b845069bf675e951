/** Promises 29 to 32: tape, item, read, shift. */
public final class TapeTest {
    public static void main(String[] args) {
        tape();
        item();
        read();
        shiftRefused();
        shift();
        Check.end();
    }

    private static void tape() {
        OneForDog x = new OneForDog();
        Check.due("tape -1", x.tape(-1, 0, 1), -1);
        Check.due("tape 6", x.tape(6, 9, -1), -1);
        Check.due("sort -2", x.tape(0, -2, 1), -2);
        Check.due("sort 5", x.tape(0, 5, 1), -2);
        Check.due("sort 5 and a size below 0", x.tape(0, 5, -1), -2);
        Check.due("n 61", x.tape(0, 0, 61), -2);
        Check.due("n -1", x.tape(0, 0, -1), -14);
        Check.due("nothing there still", x.item(0, 0, 0), -11);
        for (int sort = 0; sort < 5; sort++) {
            Check.due("sort " + sort, x.tape(sort, sort, 60), 1);
            Check.due("its last item", x.read(sort, 59), 0);
            Check.due("none behind it", x.read(sort, 60), OneForDog.NO);
        }
        x.item(2, 5, 7);
        Check.due("refused", x.tape(2, 2, 61), -2);
        Check.due("refused, so as it was", x.read(2, 5), 7);
        Check.due("anew", x.tape(2, 3, 6), 1);
        Check.due("all 0", x.read(2, 5), 0);
        Check.due("a row of none", x.tape(2, 0, 0), 1);
        Check.due("it holds no item", x.item(2, 0, 1), -13);
        Check.due("nothing", x.tape(2, -1, -9), 1);
        Check.due("nothing is there", x.item(2, 0, 1), -11);
        Check.due("nothing, n 99", x.tape(3, -1, 99), 1);
        Check.due("nothing to read", x.read(3, 0), OneForDog.NO);
    }

    private static void item() {
        OneForDog x = new OneForDog();
        Check.due("tape -1", x.item(-1, 0, 0), -1);
        Check.due("tape 6", x.item(6, 0, 0), -1);
        Check.due("nothing there", x.item(0, -1, 0), -11);
        long[] values = {0, 1, -1, 2, 127, 128, 255, 256, 32768, 65535, 65536, 1L << 31, 1L << 32, -(1L << 40),
            Long.MIN_VALUE, Long.MAX_VALUE};
        for (int sort = 0; sort < 5; sort++) {
            x.tape(sort, sort, 2);
            Check.due("place -1", x.item(sort, -1, 5), -13);
            Check.due("place 2", x.item(sort, 2, 5), -13);
            for (long v : values) {
                long[] want = {(byte) v, (short) v, (int) v, v, v != 0 ? 1 : 0};
                Check.due("sort " + sort + " becomes " + v, x.item(sort, 1, v), 1);
                Check.due("sort " + sort + " became " + v, x.read(sort, 1), want[sort]);
                Check.due("the other one", x.read(sort, 0), 0);
            }
        }
    }

    private static void read() {
        OneForDog x = new OneForDog();
        x.tape(5, 2, 3);
        x.item(5, 0, 4);
        x.item(5, 2, 6);
        Check.due("first", x.read(5, 0), 4);
        Check.due("last", x.read(5, 2), 6);
        Check.due("place -1", x.read(5, -1), OneForDog.NO);
        Check.due("place 3", x.read(5, 3), OneForDog.NO);
        Check.due("tape -1", x.read(-1, 0), OneForDog.NO);
        Check.due("tape 6", x.read(6, 0), OneForDog.NO);
        Check.due("nothing there", x.read(4, 0), OneForDog.NO);
    }

    private static void shiftRefused() {
        OneForDog x = new OneForDog();
        x.tape(0, 2, 5);
        x.tape(1, 3, 5);
        x.tape(2, 2, 3);
        Check.due("tape -1", x.shift(-1, 0, 0, 0, 1), -1);
        Check.due("other 6", x.shift(0, 0, 6, 0, 1), -1);
        Check.due("other 6, from nothing", x.shift(3, 0, 6, 0, 1), -1);
        Check.due("from nothing", x.shift(3, 0, 0, 0, 1), -11);
        Check.due("to nothing", x.shift(0, 0, 3, 0, 1), -11);
        Check.due("to nothing, no place", x.shift(0, -1, 3, 0, -1), -11);
        Check.due("unlike sorts", x.shift(0, 0, 1, 0, 1), -12);
        Check.due("unlike sorts, no place", x.shift(0, 9, 1, 0, 1), -12);
        int most = Integer.MAX_VALUE;
        int[][] noPlace = {{-1, 0, 1}, {0, -1, 1}, {0, 0, -1}, {5, 0, 1}, {0, 3, 1}, {6, 0, 0}, {0, 4, 0}, {3, 0, 3},
            {0, 1, 3}, {0, 0, 4}, {most, 0, 1}, {0, most, 1}, {1, 1, most}, {most, most, most}};
        for (int[] call : noPlace) {
            String name = "shift(0, " + call[0] + ", 2, " + call[1] + ", " + call[2] + ")";
            Check.due(name, x.shift(0, call[0], 2, call[1], call[2]), -13);
        }
        Check.due("none from the end to the end", x.shift(0, 5, 2, 3, 0), 0);
    }

    private static OneForDog counted(int sort) {
        OneForDog x = new OneForDog();
        x.tape(0, sort, 6);
        x.tape(1, sort, 6);
        for (int i = 0; i < 6; i++) {
            x.item(0, i, i + 1);
        }
        return x;
    }

    private static void holds(String call, OneForDog x, int tape, int... items) {
        for (int i = 0; i < items.length; i++) {
            Check.due(call + ": item " + i, x.read(tape, i), items[i]);
        }
    }

    private static void shift() {
        for (int sort = 0; sort < 4; sort++) {
            OneForDog x = counted(sort);
            Check.due("up by one", x.shift(0, 0, 0, 1, 5), 5);
            holds("up by one", x, 0, 1, 1, 2, 3, 4, 5);
            x = counted(sort);
            Check.due("down by two", x.shift(0, 2, 0, 0, 4), 4);
            holds("down by two", x, 0, 3, 4, 5, 6, 5, 6);
            x = counted(sort);
            Check.due("to another", x.shift(0, 1, 1, 3, 2), 2);
            holds("to another", x, 1, 0, 0, 0, 2, 3, 0);
            holds("from another", x, 0, 1, 2, 3, 4, 5, 6);
            Check.due("all of it", x.shift(0, 0, 1, 0, 6), 6);
            holds("all of it", x, 1, 1, 2, 3, 4, 5, 6);
        }
        OneForDog full = new OneForDog();
        full.tape(0, 1, 60);
        full.item(0, 59, 7);
        Check.due("all of sixty", full.shift(0, 0, 0, 0, 60), 60);
        Check.due("the last to the first", full.shift(0, 59, 0, 0, 1), 1);
        Check.due("the first", full.read(0, 0), 7);
        OneForDog x = counted(4);
        x.item(0, 1, 0);
        x.shift(0, 0, 1, 4, 2);
        holds("booleans", x, 1, 0, 0, 0, 0, 1, 0);
    }
}
