import java.math.BigInteger;
import java.util.ArrayList;
import java.util.Arrays;
import java.util.Comparator;
import java.util.HashMap;
import java.util.List;
import java.util.Map;

/**
 * The document told a second time, by other means and without care for what it costs: texts judged by an automaton,
 * conditions by rewriting them, acts by real classes, rows of men by listing all of them.
 */
final class Model {
    private static final int[] ABOVE = {-1, 0, 0, 0, 1, 2, 3};

    /** All that the image holds. */
    private static final class Scene {
        List<Sleeper> men = new ArrayList<>();
        List<Integer> hidden = new ArrayList<>();
        int heap;
        int dog;
        int wakings;
        List<Integer> row = new ArrayList<>();
        List<Integer> book = new ArrayList<>();
        Village village;

        Scene copy() {
            Scene copy = new Scene();
            copy.men = new ArrayList<>(men);
            copy.hidden = new ArrayList<>(hidden);
            copy.heap = heap;
            copy.dog = dog;
            copy.wakings = wakings;
            copy.row = new ArrayList<>(row);
            copy.book = new ArrayList<>(book);
            copy.village = village;
            return copy;
        }
    }

    private Scene scene = new Scene();
    private Scene image;
    private String text = "";
    private int villages;
    private List<Integer> trace = new ArrayList<>();
    private final Object[] tapes = new Object[6];

    // ---- acts by real classes

    private static class Sleeper {
        final int kind;
        final int i;
        final int v;
        List<Integer> trace;

        Sleeper(int kind, int i, int v) {
            this.kind = kind;
            this.i = i;
            this.v = v;
        }

        int wakes(int x) {
            trace.add(10);
            return x + i;
        }

        int hides(int x) {
            trace.add(11);
            return wakes(x) - v;
        }

        int tells(int x) {
            trace.add(12);
            return hides(x) * 2;
        }
    }

    private static class Sharing extends Sleeper {
        Sharing(int kind, int i, int v) {
            super(kind, i, v);
        }

        @Override
        int hides(int x) {
            trace.add(20);
            return super.hides(x) ^ 6;
        }
    }

    private static class Doubling extends Sleeper {
        Doubling(int kind, int i, int v) {
            super(kind, i, v);
        }

        @Override
        int wakes(int x) {
            trace.add(30);
            return super.wakes(x * 3);
        }
    }

    private static class Halving extends Sleeper {
        Halving(int kind, int i, int v) {
            super(kind, i, v);
        }

        @Override
        int tells(int x) {
            trace.add(40);
            return super.tells(x) + hides(1);
        }
    }

    private static final class Honest extends Sharing {
        Honest(int kind, int i, int v) {
            super(kind, i, v);
        }

        @Override
        int wakes(int x) {
            trace.add(50);
            return -super.wakes(x);
        }

        @Override
        int hides(int x) {
            trace.add(51);
            return super.hides(x + 1);
        }
    }

    private static final class Twice extends Doubling {
        Twice(int kind, int i, int v) {
            super(kind, i, v);
        }

        @Override
        int tells(int x) {
            trace.add(60);
            return super.tells(x - i);
        }
    }

    private static final class Liar extends Halving {
        Liar(int kind, int i, int v) {
            super(kind, i, v);
        }

        @Override
        int hides(int x) {
            trace.add(70);
            return super.hides(x) + super.wakes(2);
        }

        @Override
        int wakes(int x) {
            trace.add(71);
            return super.wakes(x) ^ v;
        }
    }

    private static Sleeper sleeper(int kind, int i, int v) {
        switch (kind) {
            case 1:
                return new Sharing(kind, i, v);
            case 2:
                return new Doubling(kind, i, v);
            case 3:
                return new Halving(kind, i, v);
            case 4:
                return new Honest(kind, i, v);
            case 5:
                return new Twice(kind, i, v);
            case 6:
                return new Liar(kind, i, v);
            default:
                return new Sleeper(kind, i, v);
        }
    }

    // ---- villages

    private static final class Village {
        final List<String> clauses = new ArrayList<>();
        /** What has been asked before: the clauses' sums by all that they know. */
        final Map<String, Integer> known = new HashMap<>();

        int last(String word, int without) {
            int n = without;
            for (String clause : clauses) {
                if (clause.startsWith(word + " ")) {
                    n = Integer.parseInt(clause.split(" ")[1]);
                }
            }
            return n;
        }

        int sum(String word, int without, Sleeper man, int wakings, int heap) {
            String key = word + man.i + " " + man.kind + " " + man.v + " " + wakings % 60 + " " + heap % 10;
            Integer before = known.get(key);
            if (before != null) {
                return before;
            }
            boolean any = false;
            int sum = 0;
            for (String clause : clauses) {
                String[] parts = clause.split(" ");
                if (parts[0].equals(word)) {
                    any = true;
                    if (holds(parts[2], man, wakings, heap)) {
                        sum += Integer.parseInt(parts[1]);
                    }
                }
            }
            int answer = any ? sum : without;
            known.put(key, answer);
            return answer;
        }

        private static boolean holds(String condition, Sleeper man, int wakings, int heap) {
            StringBuilder truths = new StringBuilder();
            int at = 0;
            while (at < condition.length()) {
                char c = condition.charAt(at);
                if ("()!&|".indexOf(c) >= 0) {
                    truths.append(c);
                    at++;
                    continue;
                }
                int end = at + 2;
                while (end < condition.length() && Character.isDigit(condition.charAt(end))) {
                    end++;
                }
                int fact = c == 'i' ? man.i : c == 'k' ? man.kind : c == 'v' ? man.v : c == 'w' ? wakings % 60 : heap % 10;
                int number = Integer.parseInt(condition.substring(at + 2, end));
                char relation = condition.charAt(at + 1);
                boolean so = relation == '<' ? fact < number : relation == '=' ? fact == number : fact > number;
                truths.append(so ? 'T' : 'F');
                at = end;
            }
            return reduced(truths.toString()).equals("T");
        }

        private static String reduced(String truths) {
            String now = truths;
            String before = "";
            while (!now.equals(before)) {
                before = now;
                now = now.replace("(T)", "T").replace("(F)", "F").replace("!T", "f").replace("!F", "t").toUpperCase();
                if (now.equals(before)) {
                    now = now.replaceAll("T&T", "T").replaceAll("[TF]&F|F&T", "F");
                }
                if (now.equals(before)) {
                    now = now.replaceAll("(?<![&])(T\\|[TF]|F\\|T)(?![&])", "T").replaceAll("(?<![&])F\\|F(?![&])", "F");
                }
            }
            return now;
        }
    }

    /** The place of the first byte with which no village begins so, or -1, by an automaton with a stack. */
    static int fault(String text) {
        String[] words = {"men ", "morning ", "over ", "back "};
        String state = "word";
        String word = "";
        String stack = "";
        int clauses = 1;
        for (int at = 0; at < text.length(); at++) {
            char c = text.charAt(at);
            boolean digit = c >= '0' && c <= '9';
            boolean rule = word.equals("over ") || word.equals("back ");
            String next = "";
            switch (state) {
                case "word":
                    for (String whole : words) {
                        if (whole.equals(word + c)) {
                            next = "amount";
                        } else if (whole.startsWith(word + c)) {
                            next = "word";
                        }
                    }
                    word += c;
                    break;
                case "amount":
                    next = digit ? "amount1" : "";
                    break;
                case "amount1":
                case "amount2":
                    if (digit && state.equals("amount1")) {
                        next = "amount2";
                    } else if (rule && c == ' ') {
                        next = "operand";
                    } else if (!rule && c == ';' && clauses < 10) {
                        clauses++;
                        word = "";
                        next = "word";
                    }
                    break;
                case "operand":
                    if ((c == '(' || c == '!') && stack.length() < 4) {
                        stack += c;
                        next = "operand";
                    } else if ("ikvwh".indexOf(c) >= 0) {
                        next = "relation";
                    }
                    break;
                case "relation":
                    next = "<=>".indexOf(c) >= 0 ? "number" : "";
                    break;
                case "number":
                    next = digit ? "number1" : "";
                    break;
                default:
                    // A test may be over here: "number1", "number2", or "closed" behind a bracket.
                    if (digit && state.equals("number1")) {
                        next = "number2";
                        break;
                    }
                    while (stack.endsWith("!")) {
                        stack = stack.substring(0, stack.length() - 1);
                    }
                    if (c == '&' || c == '|') {
                        next = "operand";
                    } else if (c == ')' && stack.endsWith("(")) {
                        stack = stack.substring(0, stack.length() - 1);
                        next = "closed";
                    } else if (c == ';' && stack.isEmpty() && clauses < 10) {
                        clauses++;
                        word = "";
                        next = "word";
                    }
            }
            if (next.isEmpty()) {
                return at;
            }
            state = next;
        }
        boolean rule = word.equals("over ") || word.equals("back ");
        boolean amount = state.equals("amount1") || state.equals("amount2");
        boolean test = state.equals("number1") || state.equals("number2") || state.equals("closed");
        boolean whole = rule ? test && stack.replace("!", "").isEmpty() : amount;
        return whole ? -1 : text.length();
    }

    private int shares() {
        return Math.max(2, scene.village == null ? 3 : scene.village.last("men", 3));
    }

    private int morning() {
        return scene.village == null ? 1 : scene.village.last("morning", 1);
    }

    private int over(Sleeper man, int wakings, int heap) {
        return scene.village == null ? 1 : scene.village.sum("over", 1, man, wakings, heap);
    }

    private int back(Sleeper man, int wakings, int heap) {
        return scene.village == null ? 0 : scene.village.sum("back", 0, man, wakings, heap);
    }

    private int parts(Sleeper man) {
        if (man instanceof Sharing) {
            return man.v + 2;
        }
        return man instanceof Halving ? 2 : shares();
    }

    /** What is left, what the dog has and what is hidden by a waking; null: it does not come out. */
    private int[] waking(Sleeper man, int wakings, int heap) {
        int[] first = once(man, wakings, heap);
        if (first == null || man.kind != 5) {
            return first;
        }
        int[] second = once(man, wakings, first[0]);
        return second == null ? first : new int[] {second[0], first[1] + second[1], first[2] + second[2]};
    }

    private int[] once(Sleeper man, int wakings, int heap) {
        int over = over(man, wakings, heap);
        int back = back(man, wakings, heap);
        int parts = parts(man);
        if (heap < over || (heap - over) % parts != 0) {
            return null;
        }
        int part = (heap - over) / parts;
        int hides;
        switch (man.kind) {
            case 2:
            case 5:
                hides = Math.max(0, part + part - back);
                break;
            case 4:
                hides = 0;
                break;
            case 6:
                hides = Math.min(part + back, part * parts);
                break;
            default:
                hides = Math.max(0, part - back);
        }
        return new int[] {heap - over - hides, over, hides};
    }

    /** By a row from a heap: what is left, the dog's, then what each man hides; null: it does not come out. */
    private int[] walk(List<Integer> row, int heap) {
        int[] answer = new int[2 + 6];
        int now = heap;
        int wakings = scene.wakings;
        for (int man : row) {
            int[] waking = waking(scene.men.get(man), wakings, now);
            if (waking == null) {
                return null;
            }
            now = waking[0];
            answer[1] += waking[1];
            answer[2 + man] += waking[2];
            wakings++;
        }
        answer[0] = now;
        return answer;
    }

    private boolean night(List<Integer> row, int heap) {
        int[] walk = walk(row, heap);
        return walk != null && walk[0] >= morning() && (walk[0] - morning()) % shares() == 0;
    }

    private boolean isMan(int man) {
        return man >= 0 && man < scene.men.size();
    }

    // ---- the calls

    int man(int kind, int v) {
        if (kind < 0 || kind > 6) {
            return -1;
        }
        if (v < 0 || v > 9) {
            return -2;
        }
        if (scene.men.size() == 6) {
            return -4;
        }
        scene.men.add(sleeper(kind, scene.men.size(), v));
        scene.hidden.add(0);
        return scene.men.size() - 1;
    }

    int of(int man, int what) {
        if (!isMan(man) || what < 0 || what > 6) {
            return -10001;
        }
        Sleeper asked = scene.men.get(man);
        int[] answers = {asked.kind, asked.v, scene.hidden.get(man), parts(asked), over(asked, scene.wakings, scene.heap),
            back(asked, scene.wakings, scene.heap), waking(asked, scene.wakings, scene.heap) == null ? 0 : 1};
        return answers[what];
    }

    int heap(int n) {
        if (n < 0 || n > 999999) {
            return -2;
        }
        int before = scene.heap;
        scene.heap = n;
        return before;
    }

    int feed(int sign) {
        if (sign < 0 || sign > 127) {
            return -2;
        }
        if (text.length() == 100) {
            return -4;
        }
        text += (char) sign;
        return text.length();
    }

    int village() {
        if (villages == 6) {
            return -4;
        }
        String told = text;
        text = "";
        int fault = fault(told);
        if (fault >= 0) {
            return -10 - fault;
        }
        scene.village = new Village();
        scene.village.clauses.addAll(Arrays.asList(told.split(";")));
        return villages++;
    }

    int told(int what) {
        int[] answers = {shares(), morning(), scene.heap, scene.dog, scene.wakings};
        return what < 0 || what > 4 ? -1 : answers[what];
    }

    int wake(int man) {
        if (!isMan(man)) {
            return -1;
        }
        int[] waking = waking(scene.men.get(man), scene.wakings, scene.heap);
        if (waking == null || scene.wakings == 9999) {
            return -3;
        }
        scene.heap = waking[0];
        scene.dog += waking[1];
        scene.hidden.set(man, scene.hidden.get(man) + waking[2]);
        scene.wakings++;
        return waking[2];
    }

    int row(int man) {
        if (man == -1) {
            scene.row.clear();
            return 0;
        }
        if (!isMan(man)) {
            return -1;
        }
        if (scene.row.size() == 8) {
            return -4;
        }
        scene.row.add(man);
        return scene.row.size();
    }

    int night(int heap) {
        return heap < 0 || heap > 999999 ? -2 : night(scene.row, heap) ? 1 : 0;
    }

    private List<Integer> nights(int from, int to) {
        List<Integer> heaps = new ArrayList<>();
        for (int heap = from; heap <= to; heap++) {
            if (night(scene.row, heap)) {
                heaps.add(heap);
            }
        }
        return heaps;
    }

    int least(int n) {
        if (n < 0 || n > 9999) {
            return -2;
        }
        List<Integer> heaps = nights(n, n + 9999);
        return heaps.isEmpty() ? -5 : heaps.get(0);
    }

    int all(int n) {
        return n < 1 || n > 9999 ? -2 : nights(0, n - 1).size();
    }

    int greatest(int n) {
        if (n < 1 || n > 9999) {
            return -2;
        }
        List<Integer> heaps = nights(0, n - 1);
        return heaps.isEmpty() ? -5 : heaps.get(heaps.size() - 1);
    }

    int left(int heap, int what) {
        if (what < -2 || what >= scene.men.size()) {
            return -10001;
        }
        if (heap < 0 || heap > 999999) {
            return -10002;
        }
        int[] walk = walk(scene.row, heap);
        if (walk == null) {
            return -5;
        }
        return what == -1 ? walk[0] : what == -2 ? walk[1] : walk[2 + what];
    }

    int was(int left) {
        if (left < 0 || left > 9999) {
            return -2;
        }
        for (int heap = 0; heap <= 9999; heap++) {
            int[] walk = walk(scene.row, heap);
            if (walk != null && walk[0] == left) {
                return heap;
            }
        }
        return -5;
    }

    int up(int dusk, int dawn, int k) {
        if (k < -1 || k > 5) {
            return -1;
        }
        if (dusk < 0 || dusk > 9999 || dawn < 0 || dawn > 9999) {
            return -2;
        }
        List<List<Integer>> rows = new ArrayList<>();
        rows.add(new ArrayList<>());
        for (int at = 0; at < rows.size(); at++) {
            for (int man = 0; man < scene.men.size(); man++) {
                if (!rows.get(at).contains(man)) {
                    List<Integer> longer = new ArrayList<>(rows.get(at));
                    longer.add(man);
                    rows.add(longer);
                }
            }
        }
        rows.removeIf(row -> {
            int[] walk = walk(row, dusk);
            return walk == null || walk[0] != dawn;
        });
        if (k == -1) {
            return rows.size();
        }
        rows.sort(Comparator.<List<Integer>>comparingInt(List::size).thenComparing(List::toString));
        return rows.isEmpty() || rows.get(0).size() <= k ? -5 : rows.get(0).get(k);
    }

    private static long fraction(BigInteger above, BigInteger below, int part) {
        BigInteger common = above.gcd(below);
        return (part == 0 ? above : below).divide(common).longValueExact();
    }

    long fair(int heap, int man, int part) {
        if (!isMan(man) || heap < 0 || heap > 999999 || part < 0 || part > 1) {
            return Long.MIN_VALUE;
        }
        int[] walk = walk(scene.row, heap);
        if (walk == null) {
            return Long.MIN_VALUE;
        }
        BigInteger men = BigInteger.valueOf(scene.men.size());
        BigInteger has = BigInteger.valueOf(walk[2 + man]).multiply(men).add(BigInteger.valueOf(walk[0]));
        return fraction(has.subtract(BigInteger.valueOf(heap - walk[1])), men, part);
    }

    long chance(int n, int part) {
        if (n < 1 || n > 9999 || part < 0 || part > 1) {
            return Long.MIN_VALUE;
        }
        return fraction(BigInteger.valueOf(nights(1, n).size()), BigInteger.valueOf(n), part);
    }

    int big(int d, int m, int o, int what) {
        if (what < -1 || what > 39 && what < 102 || what > 199) {
            return -1;
        }
        if (d < 2 || d > 12 || m < 1 || m > 30 || o < 0 || o > 9) {
            return -2;
        }
        BigInteger number = BigInteger.valueOf(d).pow(m + 1).subtract(BigInteger.valueOf(o * (d - 1))).max(BigInteger.ZERO);
        if (what == -1) {
            return number.toString().length();
        }
        if (what < 40) {
            return number.divide(BigInteger.TEN.pow(what)).mod(BigInteger.TEN).intValue();
        }
        return number.mod(BigInteger.valueOf(what - 100)).intValue();
    }

    int book(int heap) {
        if (heap == -1) {
            scene.book.clear();
            return 0;
        }
        if (heap < 0 || heap > 999999) {
            return -2;
        }
        if (scene.book.size() == 12) {
            return -4;
        }
        scene.book.add(heap);
        return scene.book.size();
    }

    int looked() {
        for (int k = 1; k < scene.book.size() && k <= scene.row.size(); k++) {
            int[] walk = walk(scene.row.subList(0, k), scene.book.get(0));
            if (walk == null) {
                return -5;
            }
            if (walk[0] != scene.book.get(k)) {
                return k;
            }
        }
        return -5;
    }

    int judge(int tape, int i) {
        if (tape < 0 || tape > 5) {
            return -1;
        }
        if (tapes[tape] != null && !(tapes[tape] instanceof long[])) {
            return -12;
        }
        long[] told = tapes[tape] == null ? new long[0] : (long[]) tapes[tape];
        for (int man = 0; man < scene.men.size(); man++) {
            if (i < 0 || i >= told.length - man) {
                return 100 + man;
            }
            if (told[i + man] != scene.hidden.get(man)) {
                return man;
            }
        }
        return -5;
    }

    int image() {
        image = scene.copy();
        return scene.men.size();
    }

    int undo() {
        if (image == null) {
            return -3;
        }
        scene = image.copy();
        return scene.men.size();
    }

    int act(int man, int act, int x) {
        trace = new ArrayList<>();
        if (!isMan(man) || act < 0 || act > 2) {
            return 0;
        }
        Sleeper actor = scene.men.get(man);
        actor.trace = trace;
        return act == 0 ? actor.wakes(x) : act == 1 ? actor.hides(x) : actor.tells(x);
    }

    int trace(int i) {
        return i < 0 || i >= Math.min(20, trace.size()) ? -1 : trace.get(i);
    }

    int taken(int man, int k) {
        if (k < 0 || k > 6) {
            return -2;
        }
        if (!isMan(man)) {
            return -11;
        }
        int kind = scene.men.get(man).kind;
        boolean under = false;
        for (int at = kind; at >= 0; at = ABOVE[at]) {
            under |= at == k;
        }
        return under ? kind : -12;
    }

    int count(int what) {
        int[] answers = {scene.men.size(), villages, scene.row.size(), scene.book.size(), text.length(), trace.size()};
        return what < 0 || what > 5 ? -2 : answers[what];
    }

    int tape(int tape, int sort, int n) {
        if (tape < 0 || tape > 5) {
            return -1;
        }
        if (sort < -1 || sort > 4 || sort >= 0 && n > 60) {
            return -2;
        }
        if (sort >= 0 && n < 0) {
            return -14;
        }
        switch (sort) {
            case -1:
                tapes[tape] = null;
                break;
            case 0:
                tapes[tape] = new byte[n];
                break;
            case 1:
                tapes[tape] = new short[n];
                break;
            case 2:
                tapes[tape] = new int[n];
                break;
            case 3:
                tapes[tape] = new long[n];
                break;
            default:
                tapes[tape] = new boolean[n];
        }
        return 1;
    }

    private static int length(Object row) {
        return java.lang.reflect.Array.getLength(row);
    }

    int item(int tape, int i, long v) {
        if (tape < 0 || tape > 5) {
            return -1;
        }
        Object row = tapes[tape];
        if (row == null) {
            return -11;
        }
        if (i < 0 || i >= length(row)) {
            return -13;
        }
        if (row instanceof byte[]) {
            ((byte[]) row)[i] = (byte) v;
        } else if (row instanceof short[]) {
            ((short[]) row)[i] = (short) v;
        } else if (row instanceof int[]) {
            ((int[]) row)[i] = (int) v;
        } else if (row instanceof long[]) {
            ((long[]) row)[i] = v;
        } else {
            ((boolean[]) row)[i] = v != 0;
        }
        return 1;
    }

    long read(int tape, int i) {
        if (tape < 0 || tape > 5 || tapes[tape] == null || i < 0 || i >= length(tapes[tape])) {
            return Long.MIN_VALUE;
        }
        Object row = tapes[tape];
        if (row instanceof boolean[]) {
            return ((boolean[]) row)[i] ? 1 : 0;
        }
        return java.lang.reflect.Array.getLong(row, i);
    }

    int shift(int tape, int i, int other, int j, int n) {
        if (tape < 0 || tape > 5 || other < 0 || other > 5) {
            return -1;
        }
        if (tapes[tape] == null || tapes[other] == null) {
            return -11;
        }
        if (tapes[tape].getClass() != tapes[other].getClass()) {
            return -12;
        }
        try {
            System.arraycopy(tapes[tape], i, tapes[other], j, n);
        } catch (IndexOutOfBoundsException e) {
            return -13;
        }
        return n;
    }
}
