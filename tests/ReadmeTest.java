import java.io.File;
import java.io.IOException;
import java.lang.reflect.Method;
import java.lang.reflect.Modifier;
import java.nio.charset.StandardCharsets;
import java.nio.file.Files;
import java.nio.file.Path;
import java.nio.file.Paths;
import java.util.Arrays;
import java.util.List;
import java.util.Set;
import java.util.TreeSet;
import java.util.regex.Matcher;
import java.util.regex.Pattern;

/** README.md: its calls answer what it says, each call of the face is among them, its commands do what it says. */
public final class ReadmeTest {
    private static final Pattern CALL = Pattern.compile("dog\\.(\\w+)\\(([^()]*)\\);\\s+// (-?\\d+)(:.*)?");
    private static final Pattern FED = Pattern.compile("feed\\(dog, \"([^\"]*)\"\\);");
    private static final Pattern PRINTS = Pattern.compile("It prints (\\d+),.*");

    private OneForDog dog = new OneForDog();
    private final Set<String> called = new TreeSet<>();
    private int commands = 0;

    public static void main(String[] args) throws IOException, InterruptedException {
        List<String> lines = Files.readAllLines(Paths.get("README.md"), StandardCharsets.UTF_8);
        ReadmeTest page = new ReadmeTest();
        page.makesCalls(lines);
        page.leavesNoneOut();
        page.runsCommands(lines);
        Check.end();
    }

    private void makesCalls(List<String> lines) {
        for (String line : lines) {
            if (line.startsWith("OneForDog dog = ")) {
                dog = new OneForDog();
            } else if (line.startsWith("dog.")) {
                calls(line);
            } else if (line.startsWith("feed(")) {
                feeds(line);
            }
        }
    }

    private void leavesNoneOut() {
        for (Method method : OneForDog.class.getDeclaredMethods()) {
            if (Modifier.isPublic(method.getModifiers())) {
                String name = method.getName();
                Check.due("README.md: whether " + name + " is called", called.contains(name) ? 1 : 0, 1);
            }
        }
    }

    private void calls(String line) {
        Matcher call = CALL.matcher(line);
        boolean read = call.matches();
        Check.due("README.md: whether '" + line + "' is a call with its answer", read ? 1 : 0, 1);
        if (read) {
            called.add(call.group(1));
            Check.due("README.md: " + line, answer(call.group(1), call.group(2)), Long.parseLong(call.group(3)));
        }
    }

    private long answer(String name, String told) {
        String[] values = told.isEmpty() ? new String[0] : told.split(", ");
        for (Method method : OneForDog.class.getDeclaredMethods()) {
            if (method.getName().equals(name) && method.getParameterCount() == values.length) {
                return answer(method, values);
            }
        }
        throw new IllegalArgumentException("no such call: " + name + "(" + told + ")");
    }

    private long answer(Method method, String[] values) {
        Class<?>[] types = method.getParameterTypes();
        Object[] arguments = new Object[values.length];
        for (int i = 0; i < values.length; i++) {
            long number = values[i].startsWith("'") ? values[i].charAt(1) : Long.parseLong(values[i]);
            if (types[i] == long.class) {
                arguments[i] = number;
            } else {
                arguments[i] = Math.toIntExact(number);
            }
        }
        try {
            return ((Number) method.invoke(dog, arguments)).longValue();
        } catch (ReflectiveOperationException e) {
            throw new IllegalStateException(method + " was not to be called", e);
        }
    }

    private void feeds(String line) {
        Matcher fed = FED.matcher(line);
        boolean read = fed.matches();
        Check.due("README.md: whether '" + line + "' feeds a text", read ? 1 : 0, 1);
        if (read) {
            Check.feed(dog, fed.group(1));
        }
    }

    /** The commands as they stand there, but in a folder of this test's own instead of /tmp. */
    private void runsCommands(List<String> lines) throws IOException, InterruptedException {
        Path folder = Files.createTempDirectory("readme");
        try {
            Files.write(folder.resolve("Yours.java"), yours(lines));
            for (String line : lines) {
                if (line.startsWith("    java")) {
                    runs(line.trim(), folder, printedByYours(lines));
                }
            }
        } finally {
            remove(folder.toFile());
        }
        Check.due("README.md: whether commands are told", commands >= 6 ? 1 : 0, 1);
        Check.due("README.md: whether all tests are told", lines.contains("    .ci/run") ? 1 : 0, 1);
    }

    private void runs(String command, Path folder, String due) throws IOException, InterruptedException {
        commands++;
        String[] words = command.replace("/tmp/", folder + "/").replace(" Yours.java", " " + folder + "/Yours.java")
            .split(" ");
        Process process = new ProcessBuilder(words).redirectErrorStream(true).start();
        String printed = new String(process.getInputStream().readAllBytes(), StandardCharsets.UTF_8).trim();
        int code = process.waitFor();
        if (code != 0) {
            System.out.println(printed);
        }
        Check.due("README.md: exit code of " + command, code, 0);
        if (command.endsWith(" Yours")) {
            Check.due("README.md: whether Yours prints " + due + ", not " + printed, printed.equals(due) ? 1 : 0, 1);
        }
    }

    private static String printedByYours(List<String> lines) {
        for (String line : lines) {
            Matcher prints = PRINTS.matcher(line);
            if (prints.matches()) {
                return prints.group(1);
            }
        }
        return "nothing";
    }

    private static List<String> yours(List<String> lines) {
        int start = lines.indexOf("public final class Yours {");
        int length = start < 0 ? -1 : lines.subList(start, lines.size()).indexOf("```");
        Check.due("README.md: whether Yours.java is told", length > 0 ? 1 : 0, 1);
        return length < 0 ? Arrays.asList("") : lines.subList(start, start + length);
    }

    private static void remove(File file) {
        File[] inside = file.listFiles();
        for (File one : inside == null ? new File[0] : inside) {
            remove(one);
        }
        Check.due("whether " + file + " is removed again", file.delete() ? 1 : 0, 1);
    }
}
