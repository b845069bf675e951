/** Runs of calls, drawn always alike, on the class and on tests/support/Model.java: each answer must be the same. */
public final class RandomRunsTest {
    private static final int RUNS = 200, CALLS = 512;
    private static final String[] LETTERS = {"i", "k", "v", "w", "h"};
    private static final String[] RELATIONS = {"<", "=", ">"};

    private long seed;
    private OneForDog dog;
    private Model model;
    private int run;
    private String pending = "";

    public static void main(String[] args) {
        for (int run = 1; run <= RUNS; run++) {
            new RandomRunsTest().runs(run);
        }
        Check.end();
    }

    private int draw(int bound) {
        seed = seed * 6364136223846793005L + 1442695040888963407L;
        return (int) Long.remainderUnsigned(seed >>> 24, bound);
    }

    /** Now and then one beside the bounds, else one of from .. to. */
    private int about(int from, int to) {
        if (draw(25) == 0) {
            int[] odd = {from - 1, to + 1, -1, -2, Integer.MIN_VALUE, Integer.MAX_VALUE, to + 2};
            return odd[draw(odd.length)];
        }
        return from + draw(to - from + 1);
    }

    private int someHeap(int last) {
        switch (draw(6)) {
            case 0:
                return about(0, last);
            case 1:
                return Math.max(0, dog.least(draw(3000)));
            case 2:
            case 3:
                return comingOut();
            default:
                return draw(200);
        }
    }

    /** One from which the row comes out, if a few tries find it. */
    private int comingOut() {
        int heap = draw(3000);
        for (int tries = 0; tries < 100 && dog.left(heap, -1) < 0; tries++) {
            heap = draw(3000);
        }
        return heap;
    }

    private String number(int most) {
        int n = draw(most);
        return (draw(8) == 0 && n < 10 ? "0" : "") + n;
    }

    private String condition(int depth) {
        int sort = draw(12);
        if (sort < 2 && depth < 4) {
            return "!" + (draw(2) == 0 && depth < 3 ? "(" + either(depth + 2) + ")" : condition(depth + 1));
        }
        if (sort < 4 && depth < 4) {
            return "(" + either(depth + 1) + ")";
        }
        return LETTERS[draw(5)] + RELATIONS[draw(3)] + number(draw(4) == 0 ? 60 : 9);
    }

    private String either(int depth) {
        StringBuilder text = new StringBuilder(condition(depth));
        for (int more = draw(3); more > 0; more--) {
            text.append(draw(2) == 0 ? "&" : "|").append(condition(depth));
        }
        return text.toString();
    }

    private String clause() {
        switch (draw(6)) {
            case 0:
                return "men " + number(8);
            case 1:
                return "morning " + number(6);
            case 2:
            case 3:
                return "over " + number(6) + " " + either(0);
            default:
                return "back " + number(9) + " " + either(0);
        }
    }

    private String village() {
        StringBuilder text = new StringBuilder(clause());
        for (int more = draw(draw(8) == 0 ? 12 : 3); more > 0; more--) {
            text.append(";").append(clause());
        }
        if (draw(4) == 0) {
            int at = draw(text.length());
            String signs = "();!&|=<> 0129ikvwhmenorgbackx";
            char sign = signs.charAt(draw(signs.length()));
            switch (draw(4)) {
                case 0:
                    text.setCharAt(at, sign);
                    break;
                case 1:
                    text.insert(at, sign);
                    break;
                case 2:
                    text.deleteCharAt(at);
                    break;
                default:
                    text.setLength(at);
            }
        }
        return text.toString();
    }

    private void same(String call, long got, long want) {
        Check.due("run " + run + ": " + call, got, want);
    }

    private void runs(int number) {
        run = number;
        seed = number * 7919L;
        dog = new OneForDog();
        model = new Model();
        begin();
        for (int call = 20; call < CALLS; call++) {
            if (!pending.isEmpty()) {
                feedOne();
            } else {
                step(draw(70));
            }
        }
    }

    /** Men and a row, so that the first calls find somebody. */
    private void begin() {
        for (int men = draw(7); men > 0; men--) {
            int kind = draw(7);
            int v = draw(10);
            same("man(" + kind + ", " + v + ")", dog.man(kind, v), model.man(kind, v));
        }
        for (int row = draw(6); row > 0; row--) {
            int man = draw(6);
            same("row(" + man + ")", dog.row(man), model.row(man));
        }
    }

    private void feedOne() {
        int sign = pending.charAt(0);
        pending = pending.substring(1);
        same("feed(" + sign + ")", dog.feed(sign), model.feed(sign));
        if (pending.isEmpty()) {
            same("village()", dog.village(), model.village());
        }
    }

    private void step(int sort) {
        if (sort < 30) {
            firstCalls(sort);
        } else if (sort < 50) {
            middleCalls(sort);
        } else {
            lastCalls(sort);
        }
    }

    private void firstCalls(int sort) {
        int a = about(0, 6);
        int b = about(0, 9);
        int c = someHeap(999999);
        int d = about(-1, 5);
        switch (sort) {
            case 0:
            case 1:
            case 2:
                same("man(" + a + ", " + b + ")", dog.man(a, b), model.man(a, b));
                break;
            case 3:
            case 4:
            case 5:
            case 6:
                same("of(" + d + ", " + a + ")", dog.of(d, a), model.of(d, a));
                break;
            case 7:
            case 8:
            case 9:
                same("heap(" + c + ")", dog.heap(c), model.heap(c));
                break;
            case 10:
                c = draw(9) == 0 ? draw(128) : 'm';
                if (draw(6) == 0) {
                    same("feed(" + c + ")", dog.feed(c), model.feed(c));
                }
                break;
            case 11:
                pending = village();
                break;
            case 12:
                same("count(" + a + ")", dog.count(a), model.count(a));
                break;
            case 13:
                same("looked()", dog.looked(), model.looked());
                break;
            case 14:
                if (draw(8) == 0) {
                    same("village()", dog.village(), model.village());
                }
                break;
            case 15:
            case 16:
                same("told(" + d + ")", dog.told(d), model.told(d));
                break;
            case 17:
            case 18:
            case 19:
            case 20:
            case 21:
            case 22:
                same("wake(" + d + ")", dog.wake(d), model.wake(d));
                break;
            case 23:
            case 24:
            case 25:
            case 26:
                d = draw(4) == 0 ? d : draw(5) == 0 ? -1 : draw(6);
                same("row(" + d + ")", dog.row(d), model.row(d));
                break;
            default:
                same("night(" + c + ")", dog.night(c), model.night(c));
        }
    }

    private void middleCalls(int sort) {
        int n = draw(3) == 0 ? about(0, 9999) : draw(2000);
        int c = someHeap(999999);
        int d = about(-2, 5);
        int part = draw(8) == 0 ? about(0, 1) : draw(2);
        int known = draw(4) == 0 ? d : draw(6) - (sort < 37 ? 2 : 0);
        switch (sort) {
            case 30:
                same("least(" + n + ")", dog.least(n), model.least(n));
                break;
            case 31:
                same("all(" + n + ")", dog.all(n), model.all(n));
                break;
            case 32:
                same("greatest(" + n + ")", dog.greatest(n), model.greatest(n));
                break;
            case 33:
            case 34:
            case 35:
            case 36:
                same("left(" + c + ", " + known + ")", dog.left(c, known), model.left(c, known));
                break;
            case 37:
            case 38:
                n = draw(2) == 0 ? Math.max(dog.left(c, -1), 0) : n;
                same("was(" + n + ")", dog.was(n), model.was(n));
                break;
            case 39:
            case 40:
            case 41:
                c = draw(8) == 0 ? c : draw(60);
                int dawn = draw(9) == 0 || c < 1 || c > 9999 ? n : draw(c);
                same("up(" + c + ", " + dawn + ", " + d + ")", dog.up(c, dawn, d), model.up(c, dawn, d));
                break;
            case 42:
            case 43:
                same("fair(" + c + ", " + known + ", " + part + ")", dog.fair(c, known, part), model.fair(c, known, part));
                break;
            case 44:
                same("chance(" + n + ", " + part + ")", dog.chance(n, part), model.chance(n, part));
                break;
            default:
                int m = about(1, 30);
                int o = about(0, 9);
                int what = draw(2) == 0 ? about(-1, 39) : about(100, 200);
                int parts = about(2, 12);
                same("big(" + parts + ", " + m + ", " + o + ", " + what + ")", dog.big(parts, m, o, what),
                    model.big(parts, m, o, what));
        }
    }

    private void lastCalls(int sort) {
        int a = about(0, 5);
        int b = about(0, 6);
        int c = someHeap(999999);
        if (sort == 57 && draw(3) > 0) {
            return;
        }
        switch (sort) {
            case 50:
                same("book(" + c + ")", dog.book(c), model.book(c));
                break;
            case 51:
                bookAsItIs(c);
                break;
            case 52:
            case 53:
                same("looked()", dog.looked(), model.looked());
                break;
            case 54:
                judgeAsItIs(a);
                break;
            case 55:
                same("judge(" + a + ", " + (b - 1) + ")", dog.judge(a, b - 1), model.judge(a, b - 1));
                break;
            case 56:
                same("image()", dog.image(), model.image());
                break;
            case 57:
                same("undo()", dog.undo(), model.undo());
                break;
            case 58:
            case 59:
                same("act(" + a + ", " + b % 4 + ", " + c + ")", dog.act(a, b % 4, c), model.act(a, b % 4, c));
                same("trace(" + b + ")", dog.trace(b), model.trace(b));
                break;
            case 60:
                same("trace(" + c % 22 + ")", dog.trace(c % 22), model.trace(c % 22));
                break;
            case 61:
                same("taken(" + a + ", " + b + ")", dog.taken(a, b), model.taken(a, b));
                break;
            case 62:
                same("count(" + a + ")", dog.count(a), model.count(a));
                break;
            default:
                tapeCalls(sort);
        }
    }

    private void tapeCalls(int sort) {
        int a = about(0, 5);
        int b = about(0, 5);
        int n = draw(3) == 0 ? about(0, 60) : draw(12);
        int i = draw(3) == 0 ? about(0, 60) : draw(8);
        int j = draw(3) == 0 ? about(0, 60) : draw(8);
        switch (sort) {
            case 63:
            case 64:
                int kind = draw(2) == 0 ? 3 : about(-1, 4);
                same("tape(" + a + ", " + kind + ", " + n + ")", dog.tape(a, kind, n), model.tape(a, kind, n));
                break;
            case 65:
            case 66:
                long v = draw(2) == 0 ? draw(100) : (seed ^ seed >>> 20) >> draw(60);
                same("item(" + a + ", " + i + ", " + v + ")", dog.item(a, i, v), model.item(a, i, v));
                break;
            case 67:
                same("read(" + a + ", " + i + ")", dog.read(a, i), model.read(a, i));
                break;
            default:
                same("shift(" + a + ", " + i + ", " + b + ", " + j + ", " + n + ")", dog.shift(a, i, b, j, n),
                    model.shift(a, i, b, j, n));
        }
    }

    /** The book as the row goes, here and there otherwise. */
    private void bookAsItIs(int heap) {
        same("book(-1)", dog.book(-1), model.book(-1));
        same("book(" + heap + ")", dog.book(heap), model.book(heap));
        int length = dog.count(2);
        int other = heap;
        for (int k = 0; k < length; k++) {
            other = draw(6) == 0 ? draw(100) : Math.max(0, other * 2 / 3);
            same("book(" + other + ")", dog.book(other), model.book(other));
        }
        same("looked()", dog.looked(), model.looked());
    }

    /** A row of longs that tells what is hidden, now and then otherwise or too short. */
    private void judgeAsItIs(int tape) {
        int men = dog.count(0);
        int n = men + draw(4) - 1;
        int place = draw(3);
        same("tape(" + tape + ", 3, " + n + ")", dog.tape(tape, 3, n), model.tape(tape, 3, n));
        for (int man = 0; man < men; man++) {
            long v = dog.of(man, 2) + (draw(12) == 0 ? 1L << 32 : 0);
            same("item(" + tape + ", " + (place + man) + ", " + v + ")", dog.item(tape, place + man, v),
                model.item(tape, place + man, v));
        }
        same("judge(" + tape + ", " + place + ")", dog.judge(tape, place), model.judge(tape, place));
    }
}
