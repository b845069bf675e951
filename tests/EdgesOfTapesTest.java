/** The boundary cases of promises 29 to 32: tape, item, read, shift. One test for each sentence. */
public final class EdgesOfTapesTest {
    private static final int LOWEST = Integer.MIN_VALUE, HIGHEST = Integer.MAX_VALUE;
    private static final long NO = Long.MIN_VALUE;

    public static void main(String[] args) {
        nothingAtFirst();
        sizes();
        allZero();
        holdsNothing();
        tapeNone();
        tapeBad();
        tapeSize();
        tapeFirstNamed();
        lowestBits();
        booleans();
        zeroAndOne();
        itemNone();
        itemNothing();
        itemPlace();
        itemFirstNamed();
        readNoTape();
        readNothing();
        readNoPlace();
        readTheLeast();
        shiftAsTheyWere();
        shiftNoItems();
        shiftNone();
        shiftNothing();
        shiftCast();
        shiftPlaceBelow();
        shiftBeyond();
        shiftFirstNamed();
        Check.end();
    }

    private static void nothingAtFirst() {
        Check.sentence(29, "TAPES 0 .. 5 hold nothing (at first)");
        OneForDog x = new OneForDog();
        for (int tape = 0; tape < 6; tape++) {
            Check.due("item(" + tape + ", 0, 1)", x.item(tape, 0, 1), -11);
            Check.due("read(" + tape + ", 0)", x.read(tape, 0), NO);
            Check.due("shift of " + tape, x.shift(tape, 0, tape, 0, 0), -11);
        }
    }

    private static void sizes() {
        Check.sentence(29, "A TAPE becomes a row of n (0 .. 60) of a sort");
        OneForDog x = new OneForDog();
        for (int sort = 0; sort < 5; sort++) {
            Check.due("60 of sort " + sort, x.tape(sort, sort, 60), 1);
            Check.due("the last of sort " + sort, x.item(sort, 59, 1), 1);
            Check.due("it is read", x.read(sort, 59), 1);
            Check.due("none behind it", x.item(sort, 60, 1), -13);
            Check.due("0 of sort " + sort, x.tape(sort, sort, 0), 1);
            Check.due("no first", x.item(sort, 0, 1), -13);
            Check.due("1 of sort " + sort, x.tape(sort, sort, 1), 1);
            Check.due("the first", x.item(sort, 0, 1), 1);
            Check.due("no second", x.item(sort, 1, 1), -13);
        }
        Check.due("the last tape", x.tape(5, 4, 60), 1);
    }

    private static void allZero() {
        Check.sentence(29, "all 0");
        OneForDog x = new OneForDog();
        x.tape(2, 3, 60);
        for (int i = 0; i < 60; i++) {
            Check.due("new: " + i, x.read(2, i), 0);
            x.item(2, i, -1);
        }
        Check.due("anew", x.tape(2, 3, 60), 1);
        for (int i = 0; i < 60; i++) {
            Check.due("anew: " + i, x.read(2, i), 0);
        }
        x.item(2, 7, 5);
        x.tape(2, 3, 3);
        x.tape(2, 3, 60);
        Check.due("shorter, then longer", x.read(2, 7), 0);
        x.item(2, 7, 5);
        x.tape(2, -1, 0);
        x.tape(2, 3, 60);
        Check.due("nothing, then a row", x.read(2, 7), 0);
    }

    private static void holdsNothing() {
        Check.sentence(29, "or holds nothing (sort -1: n does not matter)");
        OneForDog x = new OneForDog();
        int[] sizes = {0, -1, 60, 61, LOWEST, HIGHEST};
        for (int n : sizes) {
            x.tape(1, 2, 4);
            Check.due("a row", x.read(1, 3), 0);
            Check.due("tape(1, -1, " + n + ")", x.tape(1, -1, n), 1);
            Check.due("nothing to read", x.read(1, 0), NO);
            Check.due("nothing is there", x.item(1, 0, 1), -11);
        }
        Check.due("nothing, once more", x.tape(1, -1, 0), 1);
    }

    private static void tapeNone() {
        Check.sentence(29, "NONE: tape");
        OneForDog x = new OneForDog();
        int[] none = {-1, 6, LOWEST, HIGHEST};
        for (int tape : none) {
            Check.due("tape(" + tape + ", 0, 1)", x.tape(tape, 0, 1), -1);
            Check.due("tape(" + tape + ", -1, 0)", x.tape(tape, -1, 0), -1);
        }
        Check.due("tape(0, 0, 1)", x.tape(0, 0, 1), 1);
        Check.due("tape(5, 0, 1)", x.tape(5, 0, 1), 1);
    }

    private static OneForDog sevens(int sort) {
        OneForDog x = new OneForDog();
        x.tape(0, sort, 2);
        x.item(0, 0, 7);
        x.item(0, 1, 7);
        return x;
    }

    private static void tapeBad() {
        Check.sentence(29, "BAD: sort, n above 60");
        OneForDog x = sevens(2);
        int[] sorts = {-2, 5, LOWEST, HIGHEST};
        for (int sort : sorts) {
            Check.due("sort " + sort, x.tape(0, sort, 2), -2);
        }
        int[] sizes = {61, HIGHEST};
        for (int n : sizes) {
            Check.due("n " + n, x.tape(0, 0, n), -2);
        }
        Check.due("as it was", x.read(0, 1), 7);
        Check.due("as long as it was", x.read(0, 2), NO);
        Check.due("of the sort that it was", x.item(0, 1, 1L << 31), 1);
        Check.due("an int", x.read(0, 1), LOWEST);
    }

    private static void tapeSize() {
        Check.sentence(29, "SIZE");
        OneForDog x = sevens(2);
        int[] sizes = {-1, -60, LOWEST};
        for (int n : sizes) {
            for (int sort = 0; sort < 5; sort++) {
                Check.due("tape(0, " + sort + ", " + n + ")", x.tape(0, sort, n), -14);
            }
        }
        Check.due("as it was", x.read(0, 1), 7);
        Check.due("as long as it was", x.read(0, 2), NO);
    }

    private static void tapeFirstNamed() {
        Check.sentence(29, "the first that a call's words name");
        OneForDog x = new OneForDog();
        Check.due("no tape, no sort", x.tape(6, 5, 61), -1);
        Check.due("no tape, a size below 0", x.tape(-1, 0, -1), -1);
        Check.due("no sort, a size below 0", x.tape(0, 5, -1), -2);
        Check.due("no sort, n above 60", x.tape(0, -2, 61), -2);
    }

    private static void lowestBits() {
        Check.sentence(30, "(its lowest bits, as many as an item has");
        long[] values = {127, 128, 255, 256, -128, -129, 32767, 32768, 65535, 65536, -32769, HIGHEST, HIGHEST + 1L,
            (1L << 32) - 1, 1L << 32, LOWEST - 1L, Long.MAX_VALUE, Long.MIN_VALUE, -1};
        long[] bytes = {127, -128, -1, 0, -128, 127, -1, 0, -1, 0, -1, -1, 0, -1, 0, -1, -1, 0, -1};
        long[] shorts = {127, 128, 255, 256, -128, -129, 32767, -32768, -1, 0, 32767, -1, 0, -1, 0, -1, -1, 0, -1};
        long[] ints = {127, 128, 255, 256, -128, -129, 32767, 32768, 65535, 65536, -32769, HIGHEST, LOWEST, -1, 0,
            HIGHEST, -1, 0, -1};
        OneForDog x = new OneForDog();
        for (int sort = 0; sort < 4; sort++) {
            x.tape(sort, sort, 1);
        }
        for (int k = 0; k < values.length; k++) {
            for (int sort = 0; sort < 4; sort++) {
                Check.due("item(" + sort + ", 0, " + values[k] + ")", x.item(sort, 0, values[k]), 1);
            }
            Check.due("a byte of " + values[k], x.read(0, 0), bytes[k]);
            Check.due("a short of " + values[k], x.read(1, 0), shorts[k]);
            Check.due("an int of " + values[k], x.read(2, 0), ints[k]);
            Check.due("a long of " + values[k], x.read(3, 0), values[k]);
        }
    }

    private static void booleans() {
        Check.sentence(30, "booleans: whether v is not 0)");
        OneForDog x = new OneForDog();
        x.tape(0, 4, 60);
        long[] values = {0, 1, 2, -1, 256, 1L << 32, Long.MIN_VALUE, Long.MAX_VALUE, 0};
        for (long v : values) {
            Check.due("item(0, 59, " + v + ")", x.item(0, 59, v), 1);
            Check.due("of " + v, x.read(0, 59), v == 0 ? 0 : 1);
        }
    }

    private static void zeroAndOne() {
        Check.sentence(31, "4 booleans (items 0, 1)");
        OneForDog x = new OneForDog();
        x.tape(0, 4, 2);
        x.tape(1, 4, 2);
        Check.due("at first", x.read(0, 0), 0);
        x.item(0, 1, -5);
        Check.due("by -5", x.read(0, 1), 1);
        x.shift(0, 1, 1, 0, 1);
        Check.due("shifted", x.read(1, 0), 1);
        x.item(0, 1, 0);
        Check.due("by 0", x.read(0, 1), 0);
    }

    private static void itemNone() {
        Check.sentence(30, "NONE");
        OneForDog x = sevens(2);
        int[] none = {-1, 6, LOWEST, HIGHEST};
        for (int tape : none) {
            Check.due("item(" + tape + ", 0, 1)", x.item(tape, 0, 1), -1);
        }
    }

    private static void itemNothing() {
        Check.sentence(30, "NOTHING");
        OneForDog x = sevens(2);
        Check.due("never anything", x.item(5, 0, 1), -11);
        x.tape(0, -1, 0);
        Check.due("nothing any more", x.item(0, 0, 1), -11);
        x.tape(0, 2, 0);
        Check.due("a row of none is something", x.item(0, 0, 1), -13);
    }

    private static void itemPlace() {
        Check.sentence(30, "PLACE");
        OneForDog x = sevens(2);
        int[] none = {-1, 2, 60, LOWEST, HIGHEST};
        for (int i : none) {
            Check.due("item(0, " + i + ", 1)", x.item(0, i, 1), -13);
        }
        Check.due("the first as it was", x.read(0, 0), 7);
        Check.due("the last as it was", x.read(0, 1), 7);
        Check.due("the first", x.item(0, 0, 1), 1);
        Check.due("the last", x.item(0, 1, 2), 1);
        Check.due("the first then", x.read(0, 0), 1);
        Check.due("the last then", x.read(0, 1), 2);
    }

    private static void itemFirstNamed() {
        Check.sentence(30, "the first that a call's words name");
        OneForDog x = new OneForDog();
        Check.due("no tape, no place", x.item(6, -1, 1), -1);
        Check.due("nothing, no place", x.item(0, -1, 1), -11);
        Check.due("nothing, a place beyond", x.item(0, 60, 1), -11);
    }

    private static void readNoTape() {
        Check.sentence(31, "NO: no such TAPE");
        OneForDog x = sevens(2);
        int[] none = {-1, 6, LOWEST, HIGHEST};
        for (int tape : none) {
            Check.due("read(" + tape + ", 0)", x.read(tape, 0), NO);
        }
        Check.due("read(0, 0)", x.read(0, 0), 7);
    }

    private static void readNothing() {
        Check.sentence(31, "nothing there");
        OneForDog x = sevens(2);
        Check.due("never anything", x.read(5, 0), NO);
        x.tape(0, -1, 0);
        Check.due("nothing any more", x.read(0, 0), NO);
    }

    private static void readNoPlace() {
        Check.sentence(31, "no such place");
        OneForDog x = sevens(2);
        int[] none = {-1, 2, 60, LOWEST, HIGHEST};
        for (int i : none) {
            Check.due("read(0, " + i + ")", x.read(0, i), NO);
        }
        Check.due("the first", x.read(0, 0), 7);
        Check.due("the last", x.read(0, 1), 7);
        x.tape(1, 3, 0);
        Check.due("of a row of none", x.read(1, 0), NO);
    }

    private static void readTheLeast() {
        Check.sentence(31, "Item i of a TAPE");
        OneForDog x = new OneForDog();
        x.tape(0, 3, 1);
        x.item(0, 0, Long.MIN_VALUE);
        Check.due("the least long", x.read(0, 0), Long.MIN_VALUE);
        x.item(0, 0, Long.MAX_VALUE);
        Check.due("the greatest long", x.read(0, 0), Long.MAX_VALUE);
    }

    private static OneForDog counted(int n) {
        OneForDog x = new OneForDog();
        x.tape(0, 1, n);
        x.tape(1, 1, n);
        for (int i = 0; i < n; i++) {
            x.item(0, i, i + 1);
        }
        return x;
    }

    private static void holds(String call, OneForDog x, int tape, int... items) {
        for (int i = 0; i < items.length; i++) {
            Check.due(call + ": item " + i, x.read(tape, i), items[i]);
        }
        Check.due(call + ": no more", x.read(tape, items.length), NO);
    }

    private static void shiftAsTheyWere() {
        Check.sentence(32, "come to another one (or the same) from j on, as they all were before: n");
        OneForDog x = counted(5);
        Check.due("up by one", x.shift(0, 0, 0, 1, 4), 4);
        holds("up by one", x, 0, 1, 1, 2, 3, 4);
        x = counted(5);
        Check.due("down by one", x.shift(0, 1, 0, 0, 4), 4);
        holds("down by one", x, 0, 2, 3, 4, 5, 5);
        x = counted(5);
        Check.due("to where they are", x.shift(0, 0, 0, 0, 5), 5);
        holds("to where they are", x, 0, 1, 2, 3, 4, 5);
        Check.due("the last to another's first", x.shift(0, 4, 1, 0, 1), 1);
        holds("the last to another's first", x, 1, 5, 0, 0, 0, 0);
        Check.due("the first to another's last", x.shift(0, 0, 1, 4, 1), 1);
        holds("the first to another's last", x, 1, 5, 0, 0, 0, 1);
        holds("from where they came", x, 0, 1, 2, 3, 4, 5);
        OneForDog full = counted(60);
        Check.due("all of sixty", full.shift(0, 0, 1, 0, 60), 60);
        Check.due("the first of them", full.read(1, 0), 1);
        Check.due("the last of them", full.read(1, 59), 60);
    }

    private static void shiftNoItems() {
        Check.sentence(32, "n items of a TAPE from i on");
        OneForDog x = counted(5);
        Check.due("none", x.shift(0, 2, 1, 3, 0), 0);
        Check.due("none from the end to the end", x.shift(0, 5, 1, 5, 0), 0);
        Check.due("none from the end to the same end", x.shift(0, 5, 0, 5, 0), 0);
        holds("none", x, 0, 1, 2, 3, 4, 5);
        x.tape(2, 1, 0);
        Check.due("none of a row of none", x.shift(2, 0, 2, 0, 0), 0);
        Check.due("none to a row of none", x.shift(0, 5, 2, 0, 0), 0);
    }

    private static void shiftNone() {
        Check.sentence(32, "NONE: tapes");
        OneForDog x = counted(5);
        int[] none = {-1, 6, LOWEST, HIGHEST};
        for (int tape : none) {
            Check.due("from " + tape, x.shift(tape, 0, 1, 0, 1), -1);
            Check.due("to " + tape, x.shift(0, 0, tape, 0, 1), -1);
            Check.due("from and to " + tape, x.shift(tape, 0, tape, 0, 1), -1);
        }
    }

    private static void shiftNothing() {
        Check.sentence(32, "NOTHING");
        OneForDog x = counted(5);
        Check.due("from nothing", x.shift(2, 0, 0, 0, 1), -11);
        Check.due("to nothing", x.shift(0, 0, 2, 0, 1), -11);
        Check.due("none from nothing to nothing", x.shift(2, 0, 3, 0, 0), -11);
        holds("nothing", x, 0, 1, 2, 3, 4, 5);
    }

    private static void shiftCast() {
        Check.sentence(32, "CAST: of unlike sorts");
        OneForDog x = new OneForDog();
        for (int sort = 0; sort < 5; sort++) {
            x.tape(sort, sort, 2);
            x.item(sort, 0, 1);
        }
        for (int from = 0; from < 5; from++) {
            for (int to = 0; to < 5; to++) {
                String call = "shift(" + from + ", 0, " + to + ", 1, 1)";
                Check.due(call, x.shift(from, 0, to, 1, 1), from == to ? 1 : -12);
                Check.due(call + ", but none", x.shift(from, 0, to, 1, 0), from == to ? 0 : -12);
                Check.due(call + ": it came", x.read(to, 1), from < to ? 0 : 1);
            }
        }
    }

    private static void shiftPlaceBelow() {
        Check.sentence(32, "PLACE: n, i or j is below 0");
        OneForDog x = counted(5);
        int[] below = {-1, -5, LOWEST};
        for (int k : below) {
            Check.due("i " + k, x.shift(0, k, 1, 0, 1), -13);
            Check.due("j " + k, x.shift(0, 0, 1, k, 1), -13);
            Check.due("n " + k, x.shift(0, 1, 1, 1, k), -13);
            Check.due("i " + k + ", none", x.shift(0, k, 1, 0, 0), -13);
            Check.due("j " + k + ", none", x.shift(0, 0, 1, k, 0), -13);
        }
        holds("below", x, 1, 0, 0, 0, 0, 0);
    }

    private static void shiftBeyond() {
        Check.sentence(32, "or beyond either's end");
        OneForDog x = counted(5);
        x.tape(2, 1, 3);
        int[][] beyond = {{5, 0, 1}, {0, 3, 1}, {6, 0, 0}, {0, 4, 0}, {3, 0, 3}, {0, 1, 3}, {0, 0, 4}, {HIGHEST, 0, 1},
            {0, HIGHEST, 1}, {1, 1, HIGHEST}, {HIGHEST, HIGHEST, HIGHEST}, {0, 0, 6}, {HIGHEST, 0, 0}, {0, HIGHEST, 0}};
        for (int[] n : beyond) {
            String call = "shift(0, " + n[0] + ", 2, " + n[1] + ", " + n[2] + ")";
            Check.due(call, x.shift(0, n[0], 2, n[1], n[2]), -13);
        }
        Check.due("beyond its end, from the shorter one", x.shift(2, 0, 0, 0, 4), -13);
        holds("beyond", x, 2, 0, 0, 0);
        Check.due("to either's end", x.shift(0, 2, 2, 0, 3), 3);
        holds("to either's end", x, 2, 3, 4, 5);
    }

    private static void shiftFirstNamed() {
        Check.sentence(32, "the first that a call's words name");
        OneForDog x = counted(5);
        x.tape(2, 2, 5);
        Check.due("no tape, nothing", x.shift(3, 0, 6, 0, 1), -1);
        Check.due("no tape, no place", x.shift(6, -1, 0, 0, 1), -1);
        Check.due("nothing, no place", x.shift(0, -1, 3, 0, -1), -11);
        Check.due("nothing, of any sort", x.shift(3, 0, 2, 0, 1), -11);
        Check.due("unlike sorts, no place", x.shift(0, 0, 2, 5, 1), -12);
        Check.due("unlike sorts, n below 0", x.shift(2, 0, 0, 0, -1), -12);
    }
}
