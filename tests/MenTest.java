/** Promises 1, 2, 3, 4, 7: a new object, man, of, heap, told. */
public final class MenTest {
    public static void main(String[] args) {
        newObject();
        man();
        ofMan();
        ofWaking();
        heap();
        told();
        Check.end();
    }

    private static void newObject() {
        OneForDog x = new OneForDog();
        for (int what = 0; what < 6; what++) {
            Check.due("new: count(" + what + ")", x.count(what), 0);
        }
        Check.due("new: shares", x.told(0), 3);
        Check.due("new: morning", x.told(1), 1);
        Check.due("new: heap", x.told(2), 0);
        Check.due("new: dog", x.told(3), 0);
        Check.due("new: wakings", x.told(4), 0);
        Check.due("new: of(0, 0)", x.of(0, 0), -10001);
        Check.due("new: wake(0)", x.wake(0), -1);
        Check.due("new: row(0)", x.row(0), -1);
        Check.due("new: undo()", x.undo(), -3);
        Check.due("new: trace(0)", x.trace(0), -1);
        Check.due("new: looked()", x.looked(), -5);
        Check.due("new: village()", x.village(), -10);
        for (int tape = 0; tape < 6; tape++) {
            Check.due("new: read(" + tape + ", 0)", x.read(tape, 0), OneForDog.NO);
            Check.due("new: item(" + tape + ", 0, 1)", x.item(tape, 0, 1), -11);
        }
    }

    private static void man() {
        OneForDog x = new OneForDog();
        Check.due("man(-1, 0)", x.man(-1, 0), -1);
        Check.due("man(7, 0)", x.man(7, 0), -1);
        Check.due("man(7, 10): the kind is named first", x.man(7, 10), -1);
        Check.due("man(0, -1)", x.man(0, -1), -2);
        Check.due("man(0, 10)", x.man(0, 10), -2);
        Check.due("nobody came", x.count(0), 0);
        for (int i = 0; i < 6; i++) {
            Check.due("man " + i, x.man(i + 1, i == 5 ? 9 : i), i);
        }
        Check.due("a seventh", x.man(0, 0), -4);
        Check.due("a seventh of no kind", x.man(-1, 0), -1);
        Check.due("a seventh of no v", x.man(6, 11), -2);
        Check.due("six came", x.count(0), 6);
        for (int i = 0; i < 6; i++) {
            Check.due("kind of " + i, x.of(i, 0), i + 1);
            Check.due("v of " + i, x.of(i, 1), i == 5 ? 9 : i);
        }
    }

    private static void ofMan() {
        OneForDog x = Check.men(0, 0, 1, 3, 2, 0, 3, 9, 4, 0, 5, 0, 6, 7);
        Check.due("of(-1, 0)", x.of(-1, 0), -10001);
        Check.due("of(6, 0)", x.of(6, 0), -10001);
        Check.due("of(0, -1)", x.of(0, -1), -10001);
        Check.due("of(0, 7)", x.of(0, 7), -10001);
        int[] parts = {3, 5, 3, 2, 2, 3};
        for (int i = 0; i < parts.length; i++) {
            Check.due("hidden of " + i, x.of(i, 2), 0);
            Check.due("parts of " + i, x.of(i, 3), parts[i]);
        }
        Check.village(x, "men 7");
        int[] more = {7, 5, 7, 2, 2, 7};
        for (int i = 0; i < more.length; i++) {
            Check.due("parts of " + i + " by men 7", x.of(i, 3), more[i]);
        }
        OneForDog liar = Check.men(6, 7, 4, 6);
        Check.due("parts of a liar", liar.of(0, 3), 2);
        Check.due("parts of an honest one", liar.of(1, 3), 8);
    }

    private static void ofWaking() {
        OneForDog x = Check.men(0, 0, 0, 4);
        Check.due("over without rules", x.of(0, 4), 1);
        Check.due("back without rules", x.of(0, 5), 0);
        Check.due("0 does not come out", x.of(0, 6), 0);
        x.heap(1);
        Check.due("1 comes out", x.of(0, 6), 1);
        x.heap(3);
        Check.due("3 does not come out", x.of(0, 6), 0);
        x.heap(4);
        Check.due("4 comes out", x.of(0, 6), 1);
        Check.village(x, "over 2 i=0;over 3 v=4;over 10 h>5;back 7 i=1;back 20 h<3");
        x.heap(12);
        Check.due("over of 0", x.of(0, 4), 2);
        Check.due("over of 1", x.of(1, 4), 3);
        Check.due("back of 0", x.of(0, 5), 20);
        Check.due("back of 1", x.of(1, 5), 27);
        Check.due("12 less 3 by 3", x.of(1, 6), 1);
        Check.due("12 less 2 by 3", x.of(0, 6), 0);
        x.heap(19);
        Check.due("over of 1 by 19", x.of(1, 4), 13);
        Check.due("back of 1 by 19", x.of(1, 5), 7);
        Check.due("back of 0 by 19", x.of(0, 5), 0);
        x.heap(20);
        Check.village(x, "over 5 h=0;back 6 h=0");
        Check.due("over of 0 by 20", x.of(0, 4), 5);
        Check.due("back of 0 by 20", x.of(0, 5), 6);
        Check.village(x, "over 5 i=5");
        Check.due("none of the overs holds", x.of(0, 4), 0);
        Check.due("asking did nothing", x.told(4), 0);
    }

    private static void heap() {
        OneForDog x = new OneForDog();
        Check.due("heap(7)", x.heap(7), 0);
        Check.due("heap(-1)", x.heap(-1), -2);
        Check.due("heap(1000000)", x.heap(1000000), -2);
        Check.due("heap(999999)", x.heap(999999), 7);
        Check.due("heap(0)", x.heap(0), 999999);
        Check.due("heap(1)", x.heap(1), 0);
    }

    private static void told() {
        OneForDog x = Check.men(0, 0);
        Check.due("told(-1)", x.told(-1), -1);
        Check.due("told(5)", x.told(5), -1);
        Check.village(x, "men 4;morning 2;men 5;morning 11");
        Check.due("the last men", x.told(0), 5);
        Check.due("the last morning", x.told(1), 11);
        Check.village(x, "men 1;morning 0");
        Check.due("two shares at least", x.told(0), 2);
        Check.due("a morning of 0", x.told(1), 0);
        Check.village(x, "men 0");
        Check.due("two shares by 0, too", x.told(0), 2);
        Check.due("no morning told", x.told(1), 1);
        Check.village(x, "over 1 i=0");
        Check.due("no men told", x.told(0), 3);
        x.heap(10);
        x.wake(0);
        Check.due("told heap", x.told(2), 6);
        Check.due("told dog", x.told(3), 1);
        Check.due("told wakings", x.told(4), 1);
    }
}
