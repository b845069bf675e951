/** The boundary cases of promises 25 to 27: act, trace, taken. One test for each sentence. */
public final class EdgesOfActsTest {
    private static final int LOWEST = Integer.MIN_VALUE, HIGHEST = Integer.MAX_VALUE;

    public static void main(String[] args) {
        acts();
        noSuchMan();
        noSuchAct();
        wrappingOfMen();
        wrappingOfOthers();
        nextKindAbove();
        aboveTheBody();
        fromTheLeft();
        traceBody();
        traceNone();
        traceOfLatest();
        firstTwenty();
        takenBad();
        takenNothing();
        takenUnder();
        takenCast();
        takenFirstNamed();
        Check.end();
    }

    private static void acts() {
        Check.sentence(25, "An ACT (0 wakes, 1 hides, 2 tells) of a MAN with x");
        OneForDog x = Check.men(0, 5, 0, 5, 0, 5, 0, 5, 0, 5, 0, 5);
        Check.due("the first one wakes", x.act(0, 0, 0), 0);
        Check.due("the last one wakes", x.act(5, 0, 0), 5);
        Check.due("the last one hides", x.act(5, 1, 0), 0);
        Check.due("the last one tells", x.act(5, 2, 1), 2);
    }

    /** Behind an act that ran comes one that does not. */
    private static void doesNot(OneForDog x, int man, int act, int arg) {
        Check.due("an act that runs", x.act(0, 1, 5), 5);
        Check.due("its bodies", x.count(5), 2);
        Check.due("its trace", x.trace(0), 11);
        String call = "act(" + man + ", " + act + ", " + arg + ")";
        Check.due(call, x.act(man, act, arg), 0);
        Check.due(call + ": bodies", x.count(5), 0);
        Check.due(call + ": trace(0)", x.trace(0), -1);
        Check.due(call + ": trace(1)", x.trace(1), -1);
    }

    private static void noSuchMan() {
        Check.sentence(25, "0, and no TRACE then: no such MAN");
        OneForDog x = Check.men(0, 0, 3, 0);
        int[] nobody = {-1, 2, 6, LOWEST, HIGHEST};
        for (int man : nobody) {
            for (int act = 0; act < 3; act++) {
                doesNot(x, man, act, 7);
            }
        }
        Check.due("the last man", x.act(1, 0, 7), 8);
        Check.due("of a new object", new OneForDog().act(0, 0, 7), 0);
    }

    private static void noSuchAct() {
        Check.sentence(25, "no such MAN, act");
        OneForDog x = Check.men(0, 0, 3, 0);
        int[] none = {-1, 3, LOWEST, HIGHEST};
        for (int act : none) {
            doesNot(x, 0, act, 7);
            doesNot(x, 2, act, 7);
        }
        Check.due("the first act", x.act(1, 0, 7), 8);
        Check.due("the last act", x.act(1, 2, 7), 8 * 2 + 2);
    }

    private static void wrappingOfMen() {
        Check.sentence(25, "ACTS of a MAN with x (wrapping)");
        OneForDog x = Check.men(0, 9, 0, 9, 3, 9);
        Check.due("x + i", x.act(1, 0, HIGHEST), LOWEST);
        Check.due("wakes(x) - v", x.act(0, 1, LOWEST + 8), HIGHEST);
        Check.due("wakes(x) - v, to the edge", x.act(0, 1, LOWEST + 9), LOWEST);
        Check.due("hides(x) * 2", x.act(0, 2, (1 << 30) + 9), LOWEST);
        Check.due("hides(x) * 2, all away", x.act(0, 2, LOWEST + 9), 0);
        // Twice (x + 2 - 9) and then 1 + 2 - 9.
        Check.due("super.tells(x) + hides(1)", x.act(2, 2, -(1 << 30) + 7), HIGHEST - 5);
    }

    private static void wrappingOfOthers() {
        Check.sentence(25, "with x (wrapping): 0 wakes, 1 hides, 2 tells; i his number");
        OneForDog x = Check.men(2, 0, 4, 0, 4, 9, 5, 0, 6, 7, 1, 0);
        Check.due("super.wakes(x * 3)", x.act(0, 0, HIGHEST), HIGHEST - 2);
        Check.due("-super.wakes(x), of the least", x.act(1, 0, LOWEST - 1), LOWEST);
        Check.due("-super.wakes(x), of the most", x.act(2, 0, HIGHEST - 2), -HIGHEST);
        // x + 1 and then wakes: -(x + 1 + 1), less 0, ^ 6.
        Check.due("super.hides(x + 1)", x.act(1, 1, HIGHEST), HIGHEST ^ 6);
        // x - 3, three times that and 3, twice.
        Check.due("super.tells(x - i)", x.act(3, 2, LOWEST), ((HIGHEST - 2) * 3 + 3) * 2);
        // (x + 4 ^ 7) - 7, and 2 + 4: below the least and beyond the most again.
        Check.due("super.hides(x) + super.wakes(2)", x.act(4, 1, LOWEST), LOWEST + 2);
        Check.due("super.wakes(x) ^ v", x.act(4, 0, HIGHEST - 3), LOWEST ^ 7);
        Check.due("super.hides(x) ^ 6", x.act(5, 1, HIGHEST - 5), HIGHEST ^ 6);
        Check.due("super.hides(x) ^ 6, beyond the end", x.act(5, 1, HIGHEST - 4), LOWEST ^ 6);
    }

    /** Man 0 of this kind, v 0, x 0: the bodies that run. */
    private static void runs(int kind, int act, int... bodies) {
        OneForDog x = Check.men(kind, 0);
        x.act(0, act, 0);
        String call = "kind " + kind + ", act " + act;
        Check.due(call + ": bodies", x.count(5), bodies.length);
        for (int k = 0; k < bodies.length; k++) {
            Check.due(call + ": body " + k, x.trace(k), bodies[k]);
        }
    }

    private static void nextKindAbove() {
        Check.sentence(25, "the body of his KIND, or, if that has none, of the next KIND above that has one");
        runs(0, 0, 10);
        runs(1, 0, 10);
        runs(3, 0, 10);
        runs(5, 0, 30, 10);
        runs(2, 1, 11, 30, 10);
        runs(3, 1, 11, 10);
        runs(5, 1, 11, 30, 10);
        runs(1, 2, 12, 20, 11, 10);
        runs(2, 2, 12, 11, 30, 10);
        runs(4, 2, 12, 51, 20, 11, 50, 10);
    }

    private static void aboveTheBody() {
        Check.sentence(25, "super.wakes(..): so from the KIND above the body's on");
        runs(4, 0, 50, 10);
        runs(4, 1, 51, 20, 11, 50, 10);
        runs(6, 0, 71, 10);
        runs(6, 1, 70, 11, 71, 10, 10);
        runs(5, 2, 60, 12, 11, 30, 10);
    }

    private static void fromTheLeft() {
        Check.sentence(25, "all that stands in a body is done from the left on");
        runs(3, 2, 40, 12, 11, 10, 11, 10);
        runs(6, 2, 40, 12, 70, 11, 71, 10, 10, 70, 11, 71, 10, 10);
    }

    private static void traceBody() {
        Check.sentence(26, "THE TRACE's i-th body");
        OneForDog x = Check.men(0, 0);
        x.act(0, 2, 5);
        Check.due("trace(0)", x.trace(0), 12);
        Check.due("trace(1)", x.trace(1), 11);
        Check.due("trace(2)", x.trace(2), 10);
        Check.due("trace(3)", x.trace(3), -1);
    }

    private static void traceNone() {
        Check.sentence(26, "NONE");
        OneForDog x = Check.men(0, 0);
        Check.due("no act yet", x.trace(0), -1);
        x.act(0, 1, 5);
        int[] none = {-1, 2, 19, 20, LOWEST, HIGHEST};
        for (int i : none) {
            Check.due("trace(" + i + ")", x.trace(i), -1);
        }
        Check.due("the first", x.trace(0), 11);
        Check.due("the last", x.trace(1), 10);
    }

    private static void traceOfLatest() {
        Check.sentence(26, "the numbers of the bodies that ran in the latest act(), as they began");
        OneForDog x = Check.men(0, 0);
        x.act(0, 2, 5);
        Check.due("the third of three", x.trace(2), 10);
        x.act(0, 0, 5);
        Check.due("the first of one", x.trace(0), 10);
        Check.due("no second", x.trace(1), -1);
        Check.due("how many", x.count(5), 1);
        x.act(1, 0, 5);
        Check.due("none", x.trace(0), -1);
    }

    /** No act runs more than twelve bodies, so all that run are kept. */
    private static void firstTwenty() {
        Check.sentence(26, "the first 20 are kept");
        OneForDog x = Check.men(6, 0);
        x.act(0, 2, 0);
        Check.due("bodies", x.count(5), 12);
        int[] bodies = {40, 12, 70, 11, 71, 10, 10, 70, 11, 71, 10, 10};
        for (int i = 0; i < bodies.length; i++) {
            Check.due("trace(" + i + ")", x.trace(i), bodies[i]);
        }
        for (int i = 12; i < 22; i++) {
            Check.due("trace(" + i + ")", x.trace(i), -1);
        }
    }

    private static void takenBad() {
        Check.sentence(27, "BAD: k");
        OneForDog x = Check.men(0, 0);
        int[] bad = {-1, 7, LOWEST, HIGHEST};
        for (int k : bad) {
            Check.due("taken(0, " + k + ")", x.taken(0, k), -2);
        }
    }

    private static void takenNothing() {
        Check.sentence(27, "NOTHING: no such MAN");
        OneForDog x = Check.men(0, 0);
        int[] nobody = {-1, 1, 6, LOWEST, HIGHEST};
        for (int man : nobody) {
            Check.due("taken(" + man + ", 0)", x.taken(man, 0), -11);
            Check.due("taken(" + man + ", 6)", x.taken(man, 6), -11);
        }
    }

    private static final int[] ABOVE = {-1, 0, 0, 0, 1, 2, 3};

    private static boolean isUnder(int kind, int k) {
        return k == kind || k == ABOVE[kind] || k == 0;
    }

    private static void takenUnder() {
        Check.sentence(27, "A MAN taken for one of KIND k (0 .. 6), or one under that: his KIND");
        for (int kind = 0; kind < 7; kind++) {
            OneForDog x = Check.men(kind, 0);
            for (int k = 0; k < 7; k++) {
                if (isUnder(kind, k)) {
                    Check.due("kind " + kind + " taken for " + k, x.taken(0, k), kind);
                }
            }
        }
    }

    private static void takenCast() {
        Check.sentence(27, "CAST");
        for (int kind = 0; kind < 7; kind++) {
            OneForDog x = Check.men(kind, 0);
            for (int k = 0; k < 7; k++) {
                if (!isUnder(kind, k)) {
                    Check.due("kind " + kind + " taken for " + k, x.taken(0, k), -12);
                }
            }
        }
    }

    private static void takenFirstNamed() {
        Check.sentence(27, "the first that a call's words name");
        OneForDog x = Check.men(0, 0);
        Check.due("nobody for no kind", x.taken(1, 7), -2);
        Check.due("nobody for no kind below", x.taken(-1, -1), -2);
    }
}
