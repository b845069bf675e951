import java.io.IOException;
import java.lang.reflect.Constructor;
import java.lang.reflect.Field;
import java.lang.reflect.Method;
import java.lang.reflect.Modifier;
import java.nio.file.Files;
import java.nio.file.Paths;
import java.util.Arrays;
import java.util.Set;
import java.util.TreeSet;

/** The public face, and what of LANGUAGE.md can be seen from outside. */
public final class FaceTest {
    private static final String[] CALLS = {
        "int man(int,int)", "int of(int,int)", "int heap(int)", "int feed(int)", "int village()", "int told(int)",
        "int wake(int)", "int row(int)", "int night(int)", "int least(int)", "int all(int)", "int greatest(int)",
        "int left(int,int)", "int was(int)", "int up(int,int,int)", "long fair(int,int,int)", "long chance(int,int)",
        "int big(int,int,int,int)", "int book(int)", "int looked()", "int judge(int,int)", "int image()", "int undo()",
        "int act(int,int,int)", "int trace(int)", "int taken(int,int)", "int count(int)", "int tape(int,int,int)",
        "int item(int,int,long)", "long read(int,int)", "int shift(int,int,int,int,int)"};
    private static final String[] NOT_IN_IT = {"throw", "try", "catch", "finally", "synchronized", "assert", "->", "::",
        "\" +", "+ \"", "Exact", "Object", "System.out", "package "};

    public static void main(String[] args) throws IOException {
        constants();
        calls();
        insides();
        source();
        Check.end();
    }

    private static void constants() {
        Check.due("NONE", OneForDog.NONE, -1);
        Check.due("BAD", OneForDog.BAD, -2);
        Check.due("STATE", OneForDog.STATE, -3);
        Check.due("FULL", OneForDog.FULL, -4);
        Check.due("NO", OneForDog.NO, Long.MIN_VALUE);
        Set<String> open = new TreeSet<>();
        int others = 0;
        for (Field field : OneForDog.class.getDeclaredFields()) {
            int kind = field.getModifiers();
            if (!Modifier.isPrivate(kind)) {
                boolean constant = Modifier.isPublic(kind) && Modifier.isStatic(kind) && Modifier.isFinal(kind);
                open.add((constant ? "" : "no constant: ") + field.getType() + " " + field.getName());
            } else if (Modifier.isStatic(kind) && !Modifier.isFinal(kind)) {
                others++;
            }
        }
        same("constants", open, "int NONE", "int BAD", "int STATE", "int FULL", "long NO");
        Check.due("static fields that are not final", others, 0);
    }

    private static void calls() {
        Set<String> open = new TreeSet<>();
        Set<String> hidden = new TreeSet<>();
        for (Method method : OneForDog.class.getDeclaredMethods()) {
            if (Modifier.isPublic(method.getModifiers())) {
                open.add(signature(method));
            } else {
                hidden.add(method.getName());
                Check.due(method + " is private", Modifier.isPrivate(method.getModifiers()) ? 1 : 0, 1);
            }
        }
        same("calls", open, CALLS);
        for (String call : CALLS) {
            String name = call.substring(call.indexOf(' ') + 1, call.indexOf('('));
            Check.due("a private " + name, hidden.contains(name) ? 1 : 0, 0);
        }
    }

    private static String signature(Method method) {
        StringBuilder text = new StringBuilder();
        text.append(method.getReturnType()).append(' ').append(method.getName()).append('(');
        for (Class<?> type : method.getParameterTypes()) {
            text.append(text.charAt(text.length() - 1) == '(' ? "" : ",").append(type);
        }
        return text.append(')').toString();
    }

    private static void insides() {
        Constructor<?>[] constructors = OneForDog.class.getDeclaredConstructors();
        Check.due("constructors", constructors.length, 1);
        Check.due("a public one", constructors[0].getModifiers(), Modifier.PUBLIC);
        Check.due("without arguments", constructors[0].getParameterCount(), 0);
        Check.due("public and final", OneForDog.class.getModifiers(), Modifier.PUBLIC | Modifier.FINAL);
        Class<?>[] inside = OneForDog.class.getDeclaredClasses();
        Check.due("classes inside are few", inside.length <= 12 ? 1 : 0, 1);
        for (Class<?> one : inside) {
            Check.due(one + " is static", Modifier.isStatic(one.getModifiers()) ? 1 : 0, 1);
            Check.due(one + " is not open", one.getModifiers() & (Modifier.PUBLIC | Modifier.PROTECTED), 0);
        }
    }

    private static void source() throws IOException {
        String whole = new String(Files.readAllBytes(Paths.get("src/main/java/OneForDog.java")));
        String code = whole.replaceAll("(?s)/\\*.*?\\*/", "").replaceAll("//[^\n]*", "");
        for (String word : NOT_IN_IT) {
            Check.due("'" + word + "' in the source", code.contains(word) ? 1 : 0, 0);
        }
        Set<String> imports = new TreeSet<>();
        for (String line : code.split("\n")) {
            if (line.startsWith("import ")) {
                imports.add(line);
            }
        }
        same("imports", imports, "import java.util.Arrays;");
        for (char c : whole.toCharArray()) {
            if (c > 126) {
                Check.due("signs are plain", c, 126);
            }
        }
    }

    private static void same(String what, Set<String> got, String... want) {
        Set<String> due = new TreeSet<>(Arrays.asList(want));
        if (!got.equals(due)) {
            System.out.println(what + ": " + got + ", due are " + due);
        }
        Check.due(what, got.equals(due) ? 1 : 0, 1);
    }
}
