import java.io.File;
import java.io.IOException;
import java.lang.reflect.InvocationTargetException;
import java.lang.reflect.Method;
import java.lang.reflect.Modifier;
import java.nio.file.Files;
import java.nio.file.Paths;
import java.util.ArrayList;
import java.util.List;
import java.util.TreeSet;
import java.util.regex.Matcher;
import java.util.regex.Pattern;

/** What README.md says holds: its examples answer as told, and it names every call, every class and every test. */
final class ReadmeTest {
    private static final Pattern CALL = Pattern.compile("x\\.(\\w+)\\((.*?)\\); +// (-?\\d+)(.*)");
    private static final Pattern READ = Pattern.compile("read\\(x, (\\d), \"(.*)\"\\); +// (-?\\d+).*");
    private static final Check check = new Check();

    public static void main(String[] args) throws IOException, ReflectiveOperationException {
        List<String> lines = Files.readAllLines(Paths.get("README.md"));
        List<List<String>> blocks = blocks(lines);
        check.due("java in README.md", blocks.size(), 4);
        dueHere(blocks.get(0));
        for (List<String> block : blocks.subList(1, blocks.size())) dueExample(block);
        names(String.join("\n", lines));
        check.end();
    }

    /** What stands between ```java and ```. */
    private static List<List<String>> blocks(List<String> lines) {
        List<List<String>> blocks = new ArrayList<>();
        List<String> block = null;
        for (String line : lines) {
            if (line.equals("```java")) {
                block = new ArrayList<>();
            } else if (line.equals("```")) {
                if (block != null) blocks.add(block);
                block = null;
            } else if (block != null) {
                block.add(line);
            }
        }
        return blocks;
    }

    /** README.md's way to type a text, which its examples are read by here. */
    static int read(ThereAndBack x, int routine, String text) {
        for (int i = 0; i < text.length(); i += 8) {
            int n = Math.min(8, text.length() - i);
            long w = 0;
            for (int k = i; k < i + n; k++) w = w << 8 | text.charAt(k);
            x.type(w, n);
        }
        return x.read(routine);
    }

    /** These lines stand in this file, too. */
    private static void dueHere(List<String> block) throws IOException {
        String here = String.join("\n", Files.readAllLines(Paths.get("src/test/java/ReadmeTest.java")));
        String lines = "    " + String.join("\n    ", block);
        check.due("ReadmeTest has\n" + lines + "\nwhich", here.contains(lines) ? 1 : 0, 1);
    }

    private static void dueExample(List<String> block) throws ReflectiveOperationException {
        check.dueText("the example's first line", block.get(0), "ThereAndBack x = new ThereAndBack();");
        ThereAndBack x = new ThereAndBack();
        for (String line : block.subList(1, block.size())) {
            Matcher read = READ.matcher(line);
            Matcher call = CALL.matcher(line);
            if (read.matches()) {
                check.due(line, read(x, Integer.parseInt(read.group(1)), read.group(2)), Long.parseLong(read.group(3)));
            } else if (call.matches()) {
                check.due(line, answer(x, call.group(1), call.group(2)), Long.parseLong(call.group(3)));
                if (call.group(1).equals("print")) dueOut(x, line, Integer.parseInt(call.group(3)));
            } else {
                check.dueText("an example's line", line, "a call and its answer");
            }
        }
    }

    /** What was printed stands at the end of the line. */
    private static void dueOut(ThereAndBack x, String line, int bytes) {
        StringBuilder out = new StringBuilder();
        for (int i = 0; x.out(i) >= 0; i++) out.append((char) x.out(i));
        check.due("bytes of " + line, out.length(), bytes);
        check.dueText("the end of " + line, line.substring(Math.max(0, line.length() - bytes)), out.toString());
    }

    private static long answer(ThereAndBack x, String name, String arguments) throws ReflectiveOperationException {
        String[] told = arguments.isEmpty() ? new String[0] : arguments.split(", ");
        Method method = callOf(name);
        Class<?>[] types = method.getParameterTypes();
        if (types.length != told.length) throw new IllegalArgumentException(name + " with " + told.length + " arguments");
        Object[] given = new Object[told.length];
        for (int i = 0; i < told.length; i++) given[i] = argument(types[i], told[i]);
        try {
            return ((Number) method.invoke(x, given)).longValue();
        } catch (InvocationTargetException thrown) {
            throw new IllegalStateException(name, thrown);
        }
    }

    private static Object argument(Class<?> type, String told) {
        if (type == boolean.class) return told.equals("true");
        return type == long.class ? (Object) Long.valueOf(told) : (Object) Integer.valueOf(told);
    }

    private static Method callOf(String name) {
        for (Method method : ThereAndBack.class.getDeclaredMethods()) {
            if (Modifier.isPublic(method.getModifiers()) && method.getName().equals(name)) return method;
        }
        throw new IllegalArgumentException("no call " + name);
    }

    private static void names(String readme) {
        for (Method method : ThereAndBack.class.getDeclaredMethods()) {
            if (Modifier.isPublic(method.getModifiers())) dueNamed(readme, "`" + method.getName() + "`");
        }
        for (Class<?> inner : ThereAndBack.class.getDeclaredClasses()) dueNamed(readme, "`" + inner.getSimpleName() + "`");
        TreeSet<String> told = new TreeSet<>();
        Matcher rows = Pattern.compile("\\| (\\w+Test) \\|").matcher(readme);
        while (rows.find()) told.add(rows.group(1));
        TreeSet<String> found = new TreeSet<>();
        for (String file : new File("src/test/java").list()) {
            String name = file.replace(".java", "");
            if (name.endsWith("Test")) found.add(name);
            else dueNamed(readme, "`" + name + "`");
        }
        check.dueText("the tests that README.md names", told.toString(), found.toString());
    }

    private static void dueNamed(String readme, String name) {
        check.due("README.md names " + name, readme.contains(name) ? 1 : 0, 1);
    }
}
