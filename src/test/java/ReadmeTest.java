import java.io.IOException;
import java.lang.reflect.InvocationTargetException;
import java.lang.reflect.Method;
import java.lang.reflect.Modifier;
import java.nio.file.Files;
import java.nio.file.Path;
import java.util.NoSuchElementException;
import java.util.Set;
import java.util.TreeSet;
import java.util.regex.Matcher;
import java.util.regex.Pattern;

/** README.md, read from the directory in which the test runs: its run answers as it says, and it tells every call. */
public final class ReadmeTest extends Checks {
    private static final Pattern CALL = Pattern.compile("x\\.(\\w+)\\((.*?)\\); +// (NONE|throws (\\w+)|-?\\d+)\\b.*");
    private static final Pattern TEXT = Pattern.compile("feed\\(x, \"(.*)\"\\);");
    private static final Pattern ROW = Pattern.compile("\\| `(\\w+)\\((.*?)\\)` \\|.*");

    private static final Pattern LINE = Pattern.compile("\\| `((?:table|view) NAME .*?;)` \\|.*");
    private static final int KINDS = 9;

    private ReadmeTest() {
    }

    public static void main(String[] args) throws IOException {
        BagTree x = new BagTree();
        Set<String> called = new TreeSet<>();
        Set<String> rows = new TreeSet<>();
        Set<Integer> kinds = new TreeSet<>();
        boolean inRun = false;
        for (String line : Files.readAllLines(Path.of("README.md"))) {
            if (line.startsWith("```")) {
                inRun = line.equals("```java");
            } else if (inRun) {
                called.add(runLine(x, line));
            }
            Matcher row = ROW.matcher(line);
            if (row.matches()) {
                rows.add(row.group(1) + " " + countParts(row.group(2)));
            }
            Matcher told = LINE.matcher(line);
            if (told.matches()) {
                kinds.add(kindOf(told.group(1)));
            }
        }
        for (Method m : BagTree.class.getDeclaredMethods()) {
            if (Modifier.isPublic(m.getModifiers())) {
                due(m.getName() + " is called in README.md", called.contains(m.getName()) ? 1 : 0, 1);
                String row = m.getName() + " " + m.getParameterCount();
                due(m.getName() + " is told in README.md", rows.contains(row) ? 1 : 0, 1);
            }
        }
        due("kinds of relations among the lines of README.md", kinds.size(), KINDS);
        finish("ReadmeTest");
    }

    /** The kind of the relation that a line tells of a table of as many columns as it needs; NONE: it is no line. */
    private static int kindOf(String line) {
        String told = line.replace("NAME", "v").replace("R", "t");
        for (int columns = 1; columns <= 4; columns++) {
            BagTree x = new BagTree();
            if (plan(x, "table t " + columns + ";" + told) == 2) {
                return x.of(1, 0);
            }
        }
        due("a plan with " + line, NONE, 2);
        return NONE;
    }

    /** Does what a line of the run says; the name of its call, or what else the line is. */
    private static String runLine(BagTree x, String line) {
        Matcher text = TEXT.matcher(line);
        Matcher call = CALL.matcher(line);
        if (text.matches()) {
            due("the tape ahead of " + line, x.told(9), 0);
            feed(x, text.group(1));
            return "a text";
        }
        if (call.matches()) {
            String want = call.group(4) == null ? call.group(3) : call.group(4);
            dueText(line, answer(x, call.group(1), call.group(2)), want.equals("NONE") ? "-1" : want);
            return call.group(1);
        }
        dueText("a line of the run that is no call", line, line.isEmpty() ? "" : "BagTree x = new BagTree();");
        return "no call";
    }

    /** What a call answers, or the exception's name. */
    private static String answer(BagTree x, String name, String told) {
        String[] parts = told.isEmpty() ? new String[0] : told.split(", ");
        for (Method m : BagTree.class.getDeclaredMethods()) {
            if (m.getName().equals(name) && Modifier.isPublic(m.getModifiers()) && m.getParameterCount() == parts.length) {
                try {
                    return String.valueOf(m.invoke(x, arguments(m, parts)));
                } catch (InvocationTargetException e) {
                    return e.getCause().getClass().getSimpleName();
                } catch (IllegalAccessException e) {
                    return "no access";
                }
            }
        }
        throw new NoSuchElementException("no call " + name + " of " + parts.length);
    }

    private static Object[] arguments(Method m, String[] parts) {
        Object[] made = new Object[parts.length];
        for (int k = 0; k < parts.length; k++) {
            String part = parts[k].equals("NONE") ? "-1" : parts[k].replace("L", "");
            long value = Long.decode(part);
            made[k] = m.getParameterTypes()[k] == long.class ? (Object) value : (Object) (int) value;
        }
        return made;
    }

    private static int countParts(String told) {
        return told.isEmpty() ? 0 : told.split(", ").length;
    }
}
