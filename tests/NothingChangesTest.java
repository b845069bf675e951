import java.util.ArrayList;
import java.util.List;

/**
 * "What is answered so changes nothing; what is asked changes nothing": of two objects made alike one is refused, or
 * asked, something more; behind that both must tell the same of all that they hold, of the TEXT and THE IMAGE, too.
 */
public final class NothingChangesTest {
    private static final String REFUSED = "What is answered so changes nothing";
    private static final String ASKED = "what is asked changes nothing";
    private static final int BOOK = 12;
    private static final long NO = Long.MIN_VALUE;

    private interface Call {
        long on(OneForDog x);
    }

    private interface Maker {
        OneForDog make();
    }

    public static void main(String[] args) {
        refusedMen();
        refusedWakings();
        refusedBooks();
        refusedTapes();
        refusedByFull();
        refusedFromNothing();
        faultOfAText();
        noAct();
        askedOfMen();
        askedOfNights();
        askedOfTheRest();
        Check.end();
    }

    /** Of all there is something, and of nothing as much as it can hold. */
    private static OneForDog busy() {
        OneForDog x = withoutText();
        Check.feed(x, "men 7;morni");
        return x;
    }

    private static OneForDog withoutText() {
        OneForDog x = Check.men(0, 0, 1, 3, 5, 0);
        Check.village(x, "men 4;morning 2");
        x.heap(29);
        x.wake(0);
        Check.row(x, 2);
        Check.book(x, 7);
        x.image();
        Check.village(x, "over 1 w<9;back 1 i=1");
        x.heap(79);
        x.wake(0);
        Check.row(x, 0, 1, 0);
        Check.book(x, 115, 76, 61, 41);
        for (int tape = 0; tape < 5; tape++) {
            x.tape(tape, tape, 3);
            x.item(tape, 1, 200000 + tape);
        }
        x.act(2, 2, 5);
        return x;
    }

    /** All of which there is a most is full. */
    private static OneForDog full() {
        OneForDog x = new OneForDog();
        for (int i = 0; i < 6; i++) {
            x.man(i, i + 1);
            Check.village(x, "men " + (i + 2));
        }
        x.image();
        x.heap(50);
        x.wake(0);
        for (int i = 0; i < 8; i++) {
            x.row(i % 3);
        }
        for (int i = 0; i < BOOK; i++) {
            x.book(50 - i);
        }
        StringBuilder text = new StringBuilder("men 5");
        while (text.length() < 100) {
            text.append(';');
        }
        Check.feed(x, text.toString());
        return x;
    }

    /** What shows all that an object holds, but for THE TEXT's bytes and THE IMAGE. */
    private static List<String> tells(OneForDog x) {
        List<String> told = new ArrayList<>();
        for (int what = 0; what < 6; what++) {
            told.add("count(" + what + ") " + x.count(what));
            told.add("told(" + what + ") " + x.told(what));
        }
        int men = x.count(0);
        for (int man = 0; man < men; man++) {
            for (int what = 0; what < 7; what++) {
                told.add("of(" + man + ", " + what + ") " + x.of(man, what));
            }
        }
        int[] heaps = {x.least(0), 13, 52, 79};
        for (int heap : heaps) {
            for (int what = -2; what < men && heap >= 0; what++) {
                told.add("left(" + heap + ", " + what + ") " + x.left(heap, what));
            }
        }
        told.add("looked() " + x.looked());
        for (int i = 0; i < 7; i++) {
            told.add("trace(" + i + ") " + x.trace(i));
        }
        for (int tape = 0; tape < 6; tape++) {
            for (int i = 0; i < 4; i++) {
                told.add("read(" + tape + ", " + i + ") " + x.read(tape, i));
            }
        }
        told.add("judge(3, 0) " + x.judge(3, 0));
        return told;
    }

    /** What becomes of THE TEXT and of THE IMAGE shows what they were. */
    private static List<String> tellsToTheEnd(OneForDog x) {
        List<String> told = tells(x);
        Check.feed(x, "ng 9");
        told.add("village() " + x.village());
        told.add("told(0) " + x.told(0));
        told.add("undo() " + x.undo());
        told.addAll(tells(x));
        return told;
    }

    private static void alike(String name, OneForDog one, OneForDog other) {
        List<String> got = tellsToTheEnd(one);
        List<String> want = tellsToTheEnd(other);
        Check.due(name + ": how many answers", got.size(), want.size());
        for (int i = 0; i < got.size() && i < want.size(); i++) {
            if (!got.get(i).equals(want.get(i))) {
                System.out.println(name + ": then " + got.get(i) + ", without it " + want.get(i));
                Check.due(name + ": answers as without it", 0, 1);
                return;
            }
        }
    }

    private static void changesNothing(Maker maker, String name, Call call, long due) {
        OneForDog x = maker.make();
        Check.due(name, call.on(x), due);
        alike(name, x, maker.make());
    }

    private static void refused(int promise, String name, long due, Call call) {
        Check.sentence(promise, REFUSED);
        changesNothing(NothingChangesTest::busy, name, call, due);
    }

    private static void refusedByFull(int promise, String name, long due, Call call) {
        Check.sentence(promise, REFUSED);
        changesNothing(NothingChangesTest::full, name, call, due);
    }

    private static void refusedMen() {
        refused(2, "man(7, 0)", -1, x -> x.man(7, 0));
        refused(2, "man(-1, 0)", -1, x -> x.man(-1, 0));
        refused(2, "man(0, 10)", -2, x -> x.man(0, 10));
        refused(2, "man(0, -1)", -2, x -> x.man(0, -1));
        refused(3, "of(3, 0)", -10001, x -> x.of(3, 0));
        refused(3, "of(0, 7)", -10001, x -> x.of(0, 7));
        refused(4, "heap(-1)", -2, x -> x.heap(-1));
        refused(4, "heap(1000000)", -2, x -> x.heap(1000000));
        refused(5, "feed(-1)", -2, x -> x.feed(-1));
        refused(5, "feed(128)", -2, x -> x.feed(128));
        refused(7, "told(5)", -1, x -> x.told(5));
        refused(7, "told(-1)", -1, x -> x.told(-1));
    }

    private static void refusedWakings() {
        refused(8, "wake(3)", -1, x -> x.wake(3));
        refused(8, "wake(-1)", -1, x -> x.wake(-1));
        refused(8, "wake(1) from 52", -3, x -> x.wake(1));
        refused(9, "row(3)", -1, x -> x.row(3));
        refused(9, "row(-2)", -1, x -> x.row(-2));
        refused(10, "night(-1)", -2, x -> x.night(-1));
        refused(10, "night(1000000)", -2, x -> x.night(1000000));
        refused(11, "least(-1)", -2, x -> x.least(-1));
        refused(11, "least(10000)", -2, x -> x.least(10000));
        refused(12, "all(0)", -2, x -> x.all(0));
        refused(12, "all(10000)", -2, x -> x.all(10000));
        refused(13, "greatest(0)", -2, x -> x.greatest(0));
        refused(13, "greatest(10000)", -2, x -> x.greatest(10000));
        refused(14, "left(79, 3)", -10001, x -> x.left(79, 3));
        refused(14, "left(1000000, -1)", -10002, x -> x.left(1000000, -1));
        refused(15, "was(-1)", -2, x -> x.was(-1));
        refused(15, "was(10000)", -2, x -> x.was(10000));
        refused(16, "up(1, 1, 6)", -1, x -> x.up(1, 1, 6));
        refused(16, "up(1, 10000, 0)", -2, x -> x.up(1, 10000, 0));
        refused(17, "fair(79, 3, 0)", NO, x -> x.fair(79, 3, 0));
        refused(17, "fair(78, 0, 0)", NO, x -> x.fair(78, 0, 0));
        refused(17, "fair(79, 0, 2)", NO, x -> x.fair(79, 0, 2));
        refused(18, "chance(0, 0)", NO, x -> x.chance(0, 0));
        refused(18, "chance(10, 2)", NO, x -> x.chance(10, 2));
    }

    private static void refusedBooks() {
        refused(19, "big(2, 1, 0, 40)", -1, x -> x.big(2, 1, 0, 40));
        refused(19, "big(1, 1, 0, 0)", -2, x -> x.big(1, 1, 0, 0));
        refused(20, "book(-2)", -2, x -> x.book(-2));
        refused(20, "book(1000000)", -2, x -> x.book(1000000));
        refused(22, "judge(6, 0)", -1, x -> x.judge(6, 0));
        refused(22, "judge(2, 0)", -12, x -> x.judge(2, 0));
        refused(26, "trace(-1)", -1, x -> x.trace(-1));
        refused(26, "trace(20)", -1, x -> x.trace(20));
        refused(27, "taken(0, 7)", -2, x -> x.taken(0, 7));
        refused(27, "taken(3, 0)", -11, x -> x.taken(3, 0));
        refused(27, "taken(0, 1)", -12, x -> x.taken(0, 1));
        refused(28, "count(6)", -2, x -> x.count(6));
        refused(28, "count(-1)", -2, x -> x.count(-1));
    }

    private static void refusedTapes() {
        refused(29, "tape(6, 0, 1)", -1, x -> x.tape(6, 0, 1));
        refused(29, "tape(2, 5, 1)", -2, x -> x.tape(2, 5, 1));
        refused(29, "tape(2, -2, 1)", -2, x -> x.tape(2, -2, 1));
        refused(29, "tape(2, 0, 61)", -2, x -> x.tape(2, 0, 61));
        refused(29, "tape(2, 0, -1)", -14, x -> x.tape(2, 0, -1));
        refused(30, "item(6, 0, 1)", -1, x -> x.item(6, 0, 1));
        refused(30, "item(5, 0, 1)", -11, x -> x.item(5, 0, 1));
        refused(30, "item(2, 3, 1)", -13, x -> x.item(2, 3, 1));
        refused(30, "item(2, -1, 1)", -13, x -> x.item(2, -1, 1));
        refused(31, "read(6, 0)", NO, x -> x.read(6, 0));
        refused(31, "read(5, 0)", NO, x -> x.read(5, 0));
        refused(31, "read(2, 3)", NO, x -> x.read(2, 3));
        refused(32, "shift(6, 0, 2, 0, 1)", -1, x -> x.shift(6, 0, 2, 0, 1));
        refused(32, "shift(2, 0, -1, 0, 1)", -1, x -> x.shift(2, 0, -1, 0, 1));
        refused(32, "shift(2, 1, 5, 0, 1)", -11, x -> x.shift(2, 1, 5, 0, 1));
        refused(32, "shift(5, 0, 2, 1, 1)", -11, x -> x.shift(5, 0, 2, 1, 1));
        refused(32, "shift(2, 1, 3, 0, 1)", -12, x -> x.shift(2, 1, 3, 0, 1));
        refused(32, "shift(2, 1, 2, 0, 3)", -13, x -> x.shift(2, 1, 2, 0, 3));
        refused(32, "shift(2, 0, 2, 1, 3)", -13, x -> x.shift(2, 0, 2, 1, 3));
        refused(32, "shift(2, 1, 2, 0, -1)", -13, x -> x.shift(2, 1, 2, 0, -1));
    }

    private static void refusedByFull() {
        refusedByFull(2, "man(6, 9)", -4, x -> x.man(6, 9));
        refusedByFull(5, "feed('1')", -4, x -> x.feed('1'));
        refusedByFull(6, "village()", -4, OneForDog::village);
        refusedByFull(9, "row(5)", -4, x -> x.row(5));
        refusedByFull(20, "book(99)", -4, x -> x.book(99));
    }

    private static void refusedFromNothing() {
        Check.sentence(24, REFUSED);
        changesNothing(OneForDog::new, "undo() without an image", OneForDog::undo, -3);
        Check.sentence(8, REFUSED);
        changesNothing(OneForDog::new, "wake(0) of nobody", x -> x.wake(0), -1);
    }

    private static void faultOfAText() {
        Check.sentence(6, "(the one that held holds; THE TEXT is empty)");
        String text = "men 9;morning 9;over 9 i=0;back 9 i=0;";
        changesNothing(NothingChangesTest::withoutText, text, x -> Check.village(x, text), -10 - text.length());
        changesNothing(NothingChangesTest::withoutText, "no text", OneForDog::village, -10);
    }

    private static OneForDog behindNoAct() {
        OneForDog x = busy();
        x.act(0, 3, 0);
        return x;
    }

    private static void noAct() {
        Check.sentence(25, "0, and no TRACE then: no such MAN, act");
        changesNothing(NothingChangesTest::behindNoAct, "act(3, 2, 5)", x -> x.act(3, 2, 5), 0);
        changesNothing(NothingChangesTest::behindNoAct, "act(2, -1, 5)", x -> x.act(2, -1, 5), 0);
        List<String> ahead = tells(busy());
        List<String> behind = tells(behindNoAct());
        ahead.removeIf(told -> told.startsWith("trace(") || told.startsWith("count(5)"));
        behind.removeIf(told -> told.startsWith("trace(") || told.startsWith("count(5)"));
        Check.due("but for THE TRACE all is as it was", ahead.equals(behind) ? 1 : 0, 1);
    }

    private static void asked(int promise, String name, long due, Call call) {
        Check.sentence(promise, ASKED);
        changesNothing(NothingChangesTest::busy, name, call, due);
    }

    private static void askedOfMen() {
        asked(3, "of(0, 1)", 0, x -> x.of(0, 1));
        asked(3, "of(1, 3)", 5, x -> x.of(1, 3));
        asked(3, "of(0, 4)", 1, x -> x.of(0, 4));
        asked(3, "of(1, 5)", 1, x -> x.of(1, 5));
        asked(3, "of(0, 6)", 1, x -> x.of(0, 6));
        asked(3, "of(2, 6)", 1, x -> x.of(2, 6));
        asked(7, "told(0)", 3, x -> x.told(0));
        asked(7, "told(2)", 52, x -> x.told(2));
    }

    private static void askedOfNights() {
        asked(10, "night(79)", 0, x -> x.night(79));
        asked(10, "night(115)", 1, x -> x.night(115));
        asked(11, "least(0)", 115, x -> x.least(0));
        asked(12, "all(9999)", 74, x -> x.all(9999));
        asked(13, "greatest(9999)", 9970, x -> x.greatest(9999));
        asked(14, "left(115, -1)", 40, x -> x.left(115, -1));
        asked(14, "left(115, -2)", 3, x -> x.left(115, -2));
        asked(14, "left(115, 0)", 38 + 20, x -> x.left(115, 0));
        asked(14, "left(78, -1)", -5, x -> x.left(78, -1));
        asked(15, "was(40)", 115, x -> x.was(40));
        asked(15, "was(9999)", -5, x -> x.was(9999));
        asked(16, "up(79, 52, -1)", 1, x -> x.up(79, 52, -1));
        asked(16, "up(79, 52, 0)", 0, x -> x.up(79, 52, 0));
        asked(16, "up(9999, 1, 0)", -5, x -> x.up(9999, 1, 0));
        asked(17, "fair(115, 2, 0)", -24, x -> x.fair(115, 2, 0));
        asked(18, "chance(115, 1)", 115, x -> x.chance(115, 1));
    }

    private static void askedOfTheRest() {
        asked(19, "big(12, 30, 9, 0)", 9, x -> x.big(12, 30, 9, 0));
        asked(21, "looked()", 3, OneForDog::looked);
        asked(22, "judge(3, 0)", 0, x -> x.judge(3, 0));
        asked(22, "judge(3, 1)", 0, x -> x.judge(3, 1));
        asked(22, "judge(5, 0)", 100, x -> x.judge(5, 0));
        asked(26, "trace(0)", 60, x -> x.trace(0));
        asked(27, "taken(2, 2)", 5, x -> x.taken(2, 2));
        asked(28, "count(4)", 11, x -> x.count(4));
        asked(31, "read(2, 1)", 200002, x -> x.read(2, 1));
        asked(31, "read(0, 0)", 0, x -> x.read(0, 0));
    }
}
