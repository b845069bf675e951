/** Promises 20 to 24 and 28: book, looked, judge, image, undo, count. */
public final class BookTest {
    public static void main(String[] args) {
        book();
        looked();
        lookedByWakings();
        judge();
        judgeWhom();
        image();
        imageOfVillages();
        count();
        Check.end();
    }

    private static void book() {
        OneForDog x = new OneForDog();
        Check.due("book(-2)", x.book(-2), -2);
        Check.due("book(1000000)", x.book(1000000), -2);
        Check.due("book(-1)", x.book(-1), 0);
        for (int i = 1; i <= 12; i++) {
            Check.due("book " + i, x.book(i % 2 == 0 ? 0 : 999999), i);
        }
        Check.due("a thirteenth", x.book(0), -4);
        Check.due("a thirteenth that is none", x.book(-2), -2);
        Check.due("twelve", x.count(3), 12);
        Check.due("book(-1) again", x.book(-1), 0);
        Check.due("none", x.count(3), 0);
        Check.due("book(5)", x.book(5), 1);
    }

    private static void told(OneForDog x, int... heaps) {
        x.book(-1);
        for (int heap : heaps) {
            x.book(heap);
        }
    }

    private static void looked() {
        OneForDog x = Check.men(0, 0, 5, 0);
        Check.row(x, 0, 0, 0);
        Check.due("an empty book", x.looked(), -5);
        told(x, 79);
        Check.due("one heap", x.looked(), -5);
        told(x, 79, 52, 34, 22);
        Check.due("all as told", x.looked(), -5);
        told(x, 79, 52, 34, 22, 7);
        Check.due("the row ends", x.looked(), -5);
        told(x, 79, 52, 34, 23);
        Check.due("the third", x.looked(), 3);
        told(x, 79, 52, 33, 23);
        Check.due("the second, first of two", x.looked(), 2);
        told(x, 79, 51);
        Check.due("the first", x.looked(), 1);
        told(x, 79, 79);
        Check.due("nobody woke", x.looked(), 1);
        told(x, 78, 5);
        Check.due("does not come out", x.looked(), -5);
        told(x, 7, 4, 2, 9);
        Check.due("comes out twice", x.looked(), -5);
        told(x, 7, 5, 2, 9);
        Check.due("otherwise ahead of what does not come out", x.looked(), 1);
        Check.row(x, 0, 0, 0, 0, 0, 0, 0, 0);
        told(x, 19681, 13120, 8746, 5830, 3886, 2590, 1726, 1150, 767, 5, 6, 7);
        Check.due("the eighth of twelve", x.looked(), 8);
        told(x, 19681, 13120, 8746, 5830, 3886, 2590, 1726, 1150, 766, 5, 6, 7);
        Check.due("none of eight", x.looked(), -5);
        Check.row(x, 1);
        told(x, 31, 3);
        Check.due("twice", x.looked(), -5);
        told(x, 31, 10);
        Check.due("not once", x.looked(), 1);
        Check.row(x);
        Check.due("no row", x.looked(), -5);
    }

    private static void lookedByWakings() {
        OneForDog x = Check.men(4, 0);
        Check.village(x, "over 1 w=0;over 2 w=1;over 6 w>1");
        Check.row(x, 0, 0);
        told(x, 11, 10, 8);
        Check.due("by w 0 and 1", x.looked(), -5);
        x.heap(11);
        x.wake(0);
        told(x, 12, 10, 8);
        Check.due("by w 1 and 2", x.looked(), 2);
        told(x, 12, 10, 4);
        Check.due("by w 1 and 2, as it is", x.looked(), -5);
        Check.due("asking did nothing", x.told(4), 1);
        Check.due("asking did nothing: heap", x.told(2), 10);
    }

    private static void judge() {
        OneForDog x = new OneForDog();
        Check.due("tape -1", x.judge(-1, 0), -1);
        Check.due("tape 6", x.judge(6, 0), -1);
        Check.due("nobody, nothing", x.judge(0, 0), -5);
        Check.due("nobody, a place below 0", x.judge(0, -1), -5);
        x.tape(1, 3, 0);
        Check.due("nobody, an empty row", x.judge(1, 7), -5);
        x.man(0, 0);
        Check.due("the tape holds nothing", x.judge(0, 0), 100);
        Check.due("an empty row", x.judge(1, 0), 100);
        for (int sort = 0; sort < 5; sort++) {
            x.tape(2, sort, 3);
            Check.due("sort " + sort, x.judge(2, 0), sort == 3 ? -5 : -12);
            Check.due("sort " + sort + ", a place below 0", x.judge(2, -1), sort == 3 ? 100 : -12);
        }
        x.tape(2, 3, 1);
        Check.due("a place behind the end", x.judge(2, 1), 100);
        Check.due("a far place", x.judge(2, Integer.MAX_VALUE), 100);
        Check.due("a far place below", x.judge(2, Integer.MIN_VALUE), 100);
    }

    private static void judgeWhom() {
        OneForDog x = Check.men(0, 0, 3, 0, 0, 0);
        x.heap(31);
        x.wake(0);
        x.heap(5);
        x.wake(1);
        x.tape(3, 3, 4);
        x.item(3, 1, 10);
        x.item(3, 2, 2);
        Check.due("all as told", x.judge(3, 1), -5);
        Check.due("from 0 on", x.judge(3, 0), 0);
        Check.due("from 2 on", x.judge(3, 2), 0);
        x.item(3, 2, 3);
        Check.due("the second", x.judge(3, 1), 1);
        x.item(3, 2, 2);
        x.item(3, 3, 1);
        Check.due("the third", x.judge(3, 1), 2);
        x.item(3, 3, 1L << 32);
        Check.due("a long that is 0 as an int", x.judge(3, 1), 2);
        x.item(3, 3, 10);
        Check.due("one looked at", x.judge(3, 3), 101);
        x.item(3, 2, 10);
        x.item(3, 3, 2);
        Check.due("two looked at", x.judge(3, 2), 102);
    }

    private static void image() {
        OneForDog x = Check.men(0, 0, 3, 4);
        Check.due("undo() without", x.undo(), -3);
        x.heap(31);
        x.wake(0);
        Check.row(x, 0, 0);
        told(x, 31, 21, 9);
        Check.due("image()", x.image(), 2);
        x.man(1, 1);
        x.heap(31);
        x.wake(1);
        Check.row(x, 1, 1, 2);
        told(x, 5, 6, 7, 8);
        x.tape(0, 2, 3);
        x.feed('m');
        x.act(1, 0, 5);
        Check.due("undo()", x.undo(), 2);
        Check.due("men", x.count(0), 2);
        Check.due("the third is gone", x.of(2, 0), -10001);
        Check.due("heap", x.told(2), 20);
        Check.due("dog", x.told(3), 1);
        Check.due("wakings", x.told(4), 1);
        Check.due("hidden by 0", x.of(0, 2), 10);
        Check.due("hidden by 1", x.of(1, 2), 0);
        Check.due("row", x.count(2), 2);
        Check.due("book", x.count(3), 3);
        Check.due("as the book tells", x.looked(), 1);
        Check.due("who is in the row", x.left(79, 0), 26 + 17);
        Check.due("what the row leaves", x.left(79, -1), 34);
        Check.due("the tape stays", x.read(0, 2), 0);
        Check.due("the text stays", x.count(4), 1);
        Check.due("the trace stays", x.trace(0), 10);
        Check.due("a third again", x.man(2, 5), 2);
        Check.due("his kind", x.of(2, 0), 2);
        Check.due("what he hid", x.of(2, 2), 0);
        Check.due("undo() again", x.undo(), 2);
        Check.due("men again", x.count(0), 2);
        x.row(-1);
        x.row(1);
        x.book(-1);
        Check.due("a newer image", x.image(), 2);
        x.row(0);
        x.undo();
        Check.due("the newer row", x.count(2), 1);
        Check.due("the newer book", x.count(3), 0);
    }

    private static void imageOfVillages() {
        OneForDog x = new OneForDog();
        Check.due("image() of nobody", x.image(), 0);
        Check.village(x, "men 7;morning 3");
        Check.due("undo()", x.undo(), 0);
        Check.due("no village holds", x.told(0), 3);
        Check.due("no village holds: morning", x.told(1), 1);
        Check.due("but there is one", x.count(1), 1);
        Check.due("the next", Check.village(x, "men 8"), 1);
        x.undo();
        Check.due("none holds again", x.told(0), 3);
        Check.due("the third", Check.village(x, "men 8"), 2);
        x.image();
        Check.due("the fourth", Check.village(x, "men 9"), 3);
        Check.due("it holds", x.told(0), 9);
        x.undo();
        Check.due("the one ahead of it holds", x.told(0), 8);
        Check.village(x, "no");
        Check.due("and still", x.told(0), 8);
        x.man(0, 0);
        x.heap(9);
        x.undo();
        Check.due("nobody again", x.count(0), 0);
        Check.due("heap again", x.told(2), 0);
    }

    private static void count() {
        OneForDog x = Check.men(0, 0, 3, 4);
        Check.due("count(-1)", x.count(-1), -2);
        Check.due("count(6)", x.count(6), -2);
        Check.village(x, "men 4");
        Check.row(x, 0, 1, 0);
        told(x, 1, 2, 3, 4);
        Check.feed(x, "morni");
        x.act(1, 2, 0);
        int[] want = {2, 1, 3, 4, 5, 6};
        for (int what = 0; what < want.length; what++) {
            Check.due("count(" + what + ")", x.count(what), want[what]);
        }
    }
}
