/** The boundary cases of promises 20 to 24 and 28: book, looked, judge, image, undo, count. One for each sentence. */
public final class EdgesOfBooksTest {
    private static final int LOWEST = Integer.MIN_VALUE, HIGHEST = Integer.MAX_VALUE;

    public static void main(String[] args) {
        bookBounds();
        bookEmpty();
        bookBad();
        bookFull();
        bookFirstNamed();
        lookedFromOne();
        lookedChangesNoHeap();
        lookedNone();
        asFarAsTheRow();
        asFarAsTheBook();
        asFarAsItComesOut();
        lookedOfFull();
        judgeNone();
        judgeCast();
        judgeFromPlace();
        judgeFirstOther();
        judgeNobody();
        judgeRowEnds();
        judgePlaceBelow();
        judgeNothing();
        judgeLongs();
        imageOfNobody();
        imageHoldsAll();
        imageAnew();
        undoState();
        undoAgain();
        undoLeaves();
        countBad();
        countOfEmptyAndFull();
        Check.end();
    }

    private static void bookBounds() {
        Check.sentence(20, "A heap (0 .. 999999) comes to the BOOK: how many there are");
        OneForDog x = new OneForDog();
        Check.due("book(0)", x.book(0), 1);
        Check.due("book(999999)", x.book(999999), 2);
        Check.due("the same once more", x.book(999999), 3);
        Check.due("count(3)", x.count(3), 3);
    }

    private static void bookEmpty() {
        Check.sentence(20, "(-1: it is empty then, 0)");
        OneForDog x = Check.men(0, 0);
        x.row(0);
        Check.due("of an empty one", x.book(-1), 0);
        Check.book(x, 79, 53);
        Check.due("it is otherwise", x.looked(), 1);
        Check.due("book(-1)", x.book(-1), 0);
        Check.due("count(3)", x.count(3), 0);
        Check.due("nothing to look at", x.looked(), -5);
        Check.due("the first", x.book(4), 1);
        Check.due("the second", x.book(2), 2);
        Check.due("as it is", x.looked(), -5);
    }

    private static void bookBad() {
        Check.sentence(20, "BAD");
        OneForDog x = new OneForDog();
        x.book(5);
        int[] bad = {-2, 1000000, LOWEST, HIGHEST};
        for (int heap : bad) {
            Check.due("book(" + heap + ")", x.book(heap), -2);
            Check.due("count(3)", x.count(3), 1);
        }
    }

    private static void bookFull() {
        Check.sentence(20, "FULL: 12");
        OneForDog x = new OneForDog();
        for (int i = 1; i <= 12; i++) {
            Check.due("book " + i, x.book(i), i);
        }
        Check.due("a thirteenth", x.book(5), -4);
        Check.due("twelve", x.count(3), 12);
        Check.due("emptied", x.book(-1), 0);
        Check.due("the first again", x.book(5), 1);
    }

    private static void bookFirstNamed() {
        Check.sentence(20, "the first that a call's words name");
        OneForDog x = new OneForDog();
        for (int i = 0; i < 12; i++) {
            x.book(0);
        }
        Check.due("book(-2) to a full one", x.book(-2), -2);
        Check.due("book(1000000) to a full one", x.book(1000000), -2);
        Check.due("book(0) to a full one", x.book(0), -4);
    }

    private static void lookedFromOne() {
        Check.sentence(21, "the first k (from 1) such that behind k WAKINGS THE HEAP is not the k-th "
            + "(from 0; -5: none");
        OneForDog x = Check.men(0, 0);
        Check.row(x, 0, 0, 0);
        Check.book(x, 79, 52, 34, 22);
        Check.due("none", x.looked(), -5);
        Check.book(x, 79, 51, 33, 21);
        Check.due("all: the first", x.looked(), 1);
        Check.book(x, 79, 52, 33, 21);
        Check.due("from the second on", x.looked(), 2);
        Check.book(x, 79, 52, 34, 23);
        Check.due("the last", x.looked(), 3);
        Check.book(x, 79, 51, 34, 22);
        Check.due("the first alone: it goes on from the first heap told, not from the one told last", x.looked(), 1);
    }

    private static void lookedChangesNoHeap() {
        Check.sentence(21, "LOOKED at: from the first of these as THE HEAP on, by THE ROW");
        OneForDog x = Check.men(0, 0);
        x.row(0);
        x.heap(31);
        Check.book(x, 79, 52);
        Check.due("from 79, not from THE HEAP", x.looked(), -5);
        Check.due("THE HEAP", x.told(2), 31);
        Check.book(x, 31, 52);
        Check.due("from 31", x.looked(), 1);
    }

    private static void lookedNone() {
        Check.sentence(21, "-5");
        OneForDog x = Check.men(0, 0);
        Check.due("an empty book, an empty row", x.looked(), -5);
        x.row(0);
        Check.due("an empty book", x.looked(), -5);
        x.book(79);
        Check.due("one heap alone", x.looked(), -5);
        x.row(-1);
        x.book(5);
        Check.due("an empty row", x.looked(), -5);
    }

    private static void asFarAsTheRow() {
        Check.sentence(21, "as far as THE ROW and the BOOK go");
        OneForDog x = Check.men(0, 0);
        x.row(0);
        Check.book(x, 79, 52, 1, 1);
        Check.due("the row ends", x.looked(), -5);
        x.row(0);
        Check.due("one more in the row", x.looked(), 2);
    }

    private static void asFarAsTheBook() {
        Check.sentence(21, "as far as THE ROW and the BOOK go and it COMES OUT");
        OneForDog x = Check.men(0, 0);
        Check.row(x, 0, 0, 0, 0);
        Check.book(x, 79, 52, 34);
        Check.due("the book ends", x.looked(), -5);
        x.book(9);
        Check.due("one more in the book", x.looked(), 3);
    }

    private static void asFarAsItComesOut() {
        Check.sentence(21, "and it COMES OUT)");
        OneForDog x = Check.men(0, 0);
        Check.row(x, 0, 0, 0);
        Check.book(x, 78, 5);
        Check.due("not at all", x.looked(), -5);
        Check.book(x, 4, 2, 9, 9);
        Check.due("once", x.looked(), -5);
        Check.book(x, 4, 3, 9, 9);
        Check.due("once, and otherwise", x.looked(), 1);
        Check.book(x, 0, 0);
        Check.due("of 0", x.looked(), -5);
        Check.village(x, "over 0 i=0");
        Check.book(x, 0, 0, 0, 0);
        Check.due("of 0, all as it is", x.looked(), -5);
        Check.book(x, 0, 0, 0, 1);
        Check.due("of 0, otherwise", x.looked(), 3);
    }

    private static void lookedOfFull() {
        Check.sentence(21, "A BOOK told by hand: heaps (12 at most)");
        OneForDog x = Check.men(4, 0);
        Check.village(x, "over 0 i=0");
        Check.row(x, 0, 0, 0, 0, 0, 0, 0, 0);
        Check.book(x, 8, 8, 8, 8, 8, 8, 8, 8, 8, 1, 2, 3);
        Check.due("eight wakings as told, the row ends", x.looked(), -5);
        Check.book(x, 8, 8, 8, 8, 8, 8, 8, 8, 7, 1, 2, 3);
        Check.due("the eighth", x.looked(), 8);
    }

    private static void judgeNone() {
        Check.sentence(22, "NONE: tape");
        OneForDog x = Check.men(0, 0);
        int[] noTapes = {-1, 6, LOWEST, HIGHEST};
        for (int tape : noTapes) {
            Check.due("judge(" + tape + ", 0)", x.judge(tape, 0), -1);
            Check.due("judge(" + tape + ", -1)", x.judge(tape, -1), -1);
        }
        x.tape(5, 3, 1);
        Check.due("judge(0, 0)", x.judge(0, 0), 100);
        Check.due("judge(5, 0)", x.judge(5, 0), -5);
    }

    private static void judgeCast() {
        Check.sentence(22, "CAST: it is no row of longs");
        OneForDog x = Check.men(0, 0);
        for (int sort = 0; sort < 5; sort++) {
            x.tape(1, sort, 1);
            Check.due("sort " + sort, x.judge(1, 0), sort == 3 ? -5 : -12);
            Check.due("sort " + sort + " from -1 on", x.judge(1, -1), sort == 3 ? 100 : -12);
            x.tape(1, sort, 0);
            Check.due("none of sort " + sort, x.judge(1, 0), sort == 3 ? 100 : -12);
        }
    }

    private static OneForDog threeWhoHid() {
        OneForDog x = Check.men(0, 0, 3, 0, 4, 0);
        x.heap(31);
        x.wake(0);
        x.heap(5);
        x.wake(1);
        x.tape(3, 3, 60);
        x.item(3, 57, 10);
        x.item(3, 58, 2);
        return x;
    }

    private static void judgeFromPlace() {
        Check.sentence(22, "JUDGED from place i of a TAPE on");
        OneForDog x = threeWhoHid();
        Check.due("from 56 on", x.judge(3, 56), 0);
        Check.due("from 57 on", x.judge(3, 57), -5);
        Check.due("from 58 on", x.judge(3, 58), 0);
    }

    private static void judgeFirstOther() {
        Check.sentence(22, "the first of whom it is otherwise; -5: none");
        OneForDog x = threeWhoHid();
        Check.due("none, to the row's end", x.judge(3, 57), -5);
        x.item(3, 59, 1);
        Check.due("the last", x.judge(3, 57), 2);
        x.item(3, 58, 3);
        Check.due("the last two", x.judge(3, 57), 1);
        x.item(3, 57, 11);
        Check.due("all", x.judge(3, 57), 0);
        x.item(3, 0, 10);
        x.item(3, 1, 2);
        Check.due("from 0 on", x.judge(3, 0), -5);
        Check.due("from 1 on", x.judge(3, 1), 0);
    }

    private static void judgeNobody() {
        Check.sentence(22, "or there is none to look at (nothing is read then)");
        OneForDog x = new OneForDog();
        x.tape(1, 3, 2);
        x.tape(2, 3, 0);
        int[] places = {0, 1, 2, 60, -1, LOWEST, HIGHEST};
        for (int place : places) {
            Check.due("nothing there, from " + place, x.judge(0, place), -5);
            Check.due("two, from " + place, x.judge(1, place), -5);
            Check.due("a row of none, from " + place, x.judge(2, place), -5);
        }
    }

    private static void judgeRowEnds() {
        Check.sentence(22, "100 and how many were looked at, if the row ends ahead of that");
        OneForDog x = threeWhoHid();
        x.item(3, 58, 10);
        x.item(3, 59, 2);
        Check.due("two are looked at", x.judge(3, 58), 102);
        x.item(3, 59, 10);
        Check.due("one is looked at", x.judge(3, 59), 101);
        Check.due("none is looked at", x.judge(3, 60), 100);
        Check.due("from a far place on", x.judge(3, HIGHEST), 100);
        Check.due("from another far place on", x.judge(3, HIGHEST - 1), 100);
        x.item(3, 59, 9);
        Check.due("the one looked at is otherwise", x.judge(3, 59), 0);
        x.tape(3, 3, 0);
        Check.due("a row of none", x.judge(3, 0), 100);
    }

    private static void judgePlaceBelow() {
        Check.sentence(22, "(or the place is below 0, or the TAPE holds nothing)");
        OneForDog x = threeWhoHid();
        int[] below = {-1, -2, -60, LOWEST};
        for (int place : below) {
            Check.due("judge(3, " + place + ")", x.judge(3, place), 100);
        }
    }

    private static void judgeNothing() {
        Check.sentence(22, "or the TAPE holds nothing)");
        OneForDog x = threeWhoHid();
        Check.due("never held anything", x.judge(5, 0), 100);
        Check.due("never held anything, from -1 on", x.judge(5, -1), 100);
        x.tape(3, -1, 0);
        Check.due("holds nothing any more", x.judge(3, 57), 100);
    }

    private static void judgeLongs() {
        Check.sentence(22, "HIDDEN told by a row of longs");
        OneForDog x = Check.men(0, 0);
        x.tape(0, 3, 1);
        long[] others = {1L << 32, 1L << 63, -1L, HIGHEST, LOWEST};
        for (long v : others) {
            x.item(0, 0, v);
            Check.due("0 is not " + v, x.judge(0, 0), 0);
        }
    }

    private static void imageOfNobody() {
        Check.sentence(23, "THE IMAGE is taken: how many MEN there are");
        OneForDog x = new OneForDog();
        Check.due("of nobody", x.image(), 0);
        for (int i = 1; i <= 6; i++) {
            x.man(0, 0);
            Check.due("of " + i, x.image(), i);
        }
        Check.due("undo() to six", x.undo(), 6);
    }

    private static OneForDog pictured() {
        OneForDog x = Check.men(0, 4, 3, 0);
        Check.village(x, "men 4;morning 2;over 3 i<2;back 1 i=0");
        x.heap(31);
        x.wake(0);
        Check.row(x, 1, 0);
        Check.book(x, 31, 22);
        x.image();
        return x;
    }

    private static void imageHoldsAll() {
        Check.sentence(23, "THE IMAGE: MEN, THE HEAP, HIDDEN, THE DOG's, WAKINGS, THE ROW, the BOOK, "
            + "which VILLAGE holds");
        OneForDog x = pictured();
        x.man(6, 9);
        Check.village(x, "men 7;morning 8;over 5 i=0");
        x.heap(54);
        Check.due("another waking", x.wake(0), 7);
        Check.due("THE DOG has more", x.told(3), 8);
        Check.row(x, 2, 2, 2);
        Check.book(x, 1, 2, 3);
        Check.due("undo()", x.undo(), 2);
        Check.due("MEN", x.count(0), 2);
        Check.due("the third is gone", x.of(2, 0), -10001);
        Check.due("v of the first", x.of(0, 1), 4);
        Check.due("kind of the second", x.of(1, 0), 3);
        Check.due("THE HEAP", x.told(2), 22);
        Check.due("HIDDEN of the first", x.of(0, 2), 6);
        Check.due("HIDDEN of the second", x.of(1, 2), 0);
        Check.due("THE DOG's", x.told(3), 3);
        Check.due("WAKINGS", x.told(4), 1);
        Check.due("THE ROW", x.count(2), 2);
        Check.due("who is in it: the halving one leaves 14, of that the other one can't share", x.left(31, -1), -5);
        Check.due("who is in it: the halving one leaves 15, of that the other one 10", x.left(33, -1), 10);
        Check.due("the BOOK", x.count(3), 2);
        Check.due("what is in it: of 31 14 is left", x.looked(), 1);
        Check.due("which VILLAGE holds: SHARES", x.told(0), 4);
        Check.due("which VILLAGE holds: MORNING", x.told(1), 2);
        Check.due("which VILLAGE holds: OVER", x.of(1, 4), 3);
        Check.due("which VILLAGE holds: BACK", x.of(0, 5), 1);
    }

    private static void imageAnew() {
        Check.sentence(23, "THE IMAGE is taken");
        OneForDog x = pictured();
        x.heap(77);
        x.man(1, 1);
        x.book(9);
        Check.due("a newer one", x.image(), 3);
        x.heap(5);
        x.book(-1);
        Check.due("undo()", x.undo(), 3);
        Check.due("the newer heap", x.told(2), 77);
        Check.due("the newer book", x.count(3), 3);
    }

    private static void undoState() {
        Check.sentence(24, "STATE: there is none");
        OneForDog x = Check.men(0, 0);
        x.heap(31);
        x.wake(0);
        Check.row(x, 0);
        Check.book(x, 1, 2);
        Check.due("undo()", x.undo(), -3);
        Check.due("MEN stay", x.count(0), 1);
        Check.due("THE HEAP stays", x.told(2), 20);
        Check.due("WAKINGS stay", x.told(4), 1);
        Check.due("THE ROW stays", x.count(2), 1);
        Check.due("the BOOK stays", x.count(3), 2);
        Check.due("image()", x.image(), 1);
        Check.due("undo() then", x.undo(), 1);
    }

    private static void undoAgain() {
        Check.sentence(24, "All is as THE IMAGE: how many MEN");
        OneForDog x = pictured();
        for (int again = 0; again < 3; again++) {
            x.heap(again);
            x.man(0, 0);
            x.row(-1);
            Check.due("undo()", x.undo(), 2);
            Check.due("THE HEAP", x.told(2), 22);
            Check.due("MEN", x.count(0), 2);
            Check.due("THE ROW", x.count(2), 2);
        }
        Check.due("the next man", x.man(5, 5), 2);
        Check.due("his HIDDEN", x.of(2, 2), 0);
    }

    private static void undoLeaves() {
        Check.sentence(24, "THE ROW, the BOOK, which VILLAGE holds");
        OneForDog x = pictured();
        x.tape(4, 1, 3);
        x.item(4, 2, 7);
        x.act(0, 1, 5);
        Check.village(x, "men 9");
        Check.feed(x, "men 6");
        x.undo();
        Check.due("the TAPE stays", x.read(4, 2), 7);
        Check.due("THE TRACE stays", x.trace(1), 10);
        Check.due("how many bodies stays", x.count(5), 2);
        Check.due("VILLAGES stay", x.count(1), 2);
        Check.due("THE TEXT stays", x.count(4), 5);
        Check.due("the first village holds", x.told(0), 4);
        Check.due("the next one's number", x.village(), 2);
        Check.due("it holds", x.told(0), 6);
        OneForDog y = new OneForDog();
        y.image();
        Check.village(y, "men 9");
        Check.due("undo() to none that holds", y.undo(), 0);
        Check.due("SHARES without", y.told(0), 3);
        Check.due("the second", Check.village(y, "men 8"), 1);
    }

    private static void countBad() {
        Check.sentence(28, "BAD");
        OneForDog x = new OneForDog();
        int[] bad = {-1, 6, LOWEST, HIGHEST};
        for (int what : bad) {
            Check.due("count(" + what + ")", x.count(what), -2);
        }
    }

    private static void countOfEmptyAndFull() {
        Check.sentence(28, "How many: 0 MEN, 1 VILLAGES, 2 of THE ROW, 3 of the BOOK, 4 bytes of THE TEXT, "
            + "5 bodies that ran in the latest act() (all, kept or not)");
        OneForDog x = new OneForDog();
        for (int what = 0; what < 6; what++) {
            Check.due("at first: count(" + what + ")", x.count(what), 0);
        }
        for (int i = 0; i < 13; i++) {
            x.man(6, 0);
            x.row(0);
            x.book(0);
            Check.village(x, "men 2");
        }
        Check.feed(x, "0123456789012345678901234567890123456789012345678901234567890123456789");
        int[] full = {6, 6, 8, 12, 100};
        for (int what = 0; what < full.length; what++) {
            Check.due("full: count(" + what + ")", x.count(what), full[what]);
        }
        x.act(0, 2, 0);
        Check.due("bodies of the longest act", x.count(5), 12);
        x.act(0, 3, 0);
        Check.due("bodies of no act", x.count(5), 0);
    }
}
