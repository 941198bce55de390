import java.lang.reflect.InvocationTargetException;
import java.lang.reflect.Method;
import java.nio.charset.StandardCharsets;
import java.util.NoSuchElementException;
import java.util.TreeMap;
import java.util.function.IntSupplier;
import java.util.regex.Matcher;
import java.util.regex.Pattern;

/** What the tests share: counting wrong answers, running tests by their names, feeding a text, telling a bag. */
class Checks {
    static final int NONE = BagTree.NONE;
    static final int LEAST_INT = Integer.MIN_VALUE;
    static final int MOST_INT = Integer.MAX_VALUE;
    /** Numbers that are no relation in any plan. */
    static final int[] NO_RELATIONS = {16, 17, 1000, MOST_INT, -1, -2, LEAST_INT};

    private static final Pattern PROMISE = Pattern.compile("promise([0-9]+)[A-Z].*");

    private static int checks = 0;
    private static int wrong = 0;
    /** The test that runs, ahead of each line that is printed. */
    private static String running = "";

    Checks() {
    }

    static void due(String call, long got, long want) {
        checks++;
        if (got != want) {
            wrong++;
            if (wrong <= 50) {
                System.out.println(running + call + " answered " + got + ", due is " + want);
            }
        }
    }

    static void dueText(String call, String got, String want) {
        checks++;
        if (!got.equals(want)) {
            wrong++;
            System.out.println(running + call + " has " + got + ", due is " + want);
        }
    }

    /** The call must throw NoSuchElementException. */
    static void dueNoSuch(String call, IntSupplier what) {
        checks++;
        String got;
        try {
            got = "answered " + what.getAsInt();
        } catch (NoSuchElementException e) {
            return;
        } catch (RuntimeException e) {
            got = "threw " + e;
        }
        wrong++;
        System.out.println(running + call + " " + got + ", due is NoSuchElementException");
    }

    /** Runs each method named promise, a number and what it tests; each number of the range must have one. */
    static void runByPromises(Class<?> tests, int from, int to) {
        TreeMap<String, Method> found = new TreeMap<>();
        int[] perPromise = new int[to + 1];
        for (Method m : tests.getDeclaredMethods()) {
            Matcher named = PROMISE.matcher(m.getName());
            if (named.matches()) {
                int promise = Integer.parseInt(named.group(1));
                due(m.getName() + " is of the range", promise >= from && promise <= to ? 1 : 0, 1);
                perPromise[promise]++;
                found.put(String.format("%02d %s", promise, m.getName()), m);
            }
        }
        for (int promise = from; promise <= to; promise++) {
            due("promise " + promise + " has tests", perPromise[promise] > 0 ? 1 : 0, 1);
        }
        for (Method m : found.values()) {
            runOne(m);
        }
        System.out.println(tests.getSimpleName() + ": " + found.size() + " tests of promises " + from + " to " + to);
        finish(tests.getSimpleName());
    }

    private static void runOne(Method test) {
        running = test.getName() + ": ";
        try {
            test.invoke(null);
        } catch (InvocationTargetException e) {
            wrong++;
            System.out.println(running + "threw " + e.getCause());
        } catch (IllegalAccessException e) {
            wrong++;
            System.out.println(running + "can't be called");
        }
        running = "";
    }

    static long eightBytes(byte[] text, int from) {
        long packed = 0;
        for (int i = from; i < from + 8; i++) {
            packed = packed << 8 | (i < text.length ? text[i] & 255 : 0);
        }
        return packed;
    }

    /** Puts a text on an empty tape. */
    static void feed(BagTree x, String text) {
        byte[] bytes = text.getBytes(StandardCharsets.ISO_8859_1);
        for (int i = 0; i < bytes.length; i += 24) {
            x.feed(eightBytes(bytes, i), eightBytes(bytes, i + 8), eightBytes(bytes, i + 16));
        }
        x.end(bytes.length);
    }

    static int plan(BagTree x, String text) {
        feed(x, text);
        return x.plan();
    }

    static BagTree planned(String text) {
        BagTree x = new BagTree();
        int got = plan(x, text);
        if (got < 0) {
            due("plan of " + text, got, 0);
        }
        return x;
    }

    static void fine(String text, int relations) {
        due("plan of " + text, plan(new BagTree(), text), relations);
    }

    static int codeOfFault(int place, int kind) {
        return -2 - (8 * place + kind);
    }

    static void fault(String text, int place, int kind) {
        due("plan of " + text, plan(new BagTree(), text), codeOfFault(place, kind));
    }

    /** The fault is at the last place where the mark ! stands, which itself is no part of the text. */
    static void faultAt(String marked, int kind) {
        int place = marked.lastIndexOf('!');
        fault(marked.substring(0, place) + marked.substring(place + 1), place, kind);
    }

    /** Tables ta, tb, .. of one column, then views va, vb, .. of the first. */
    static String lines(int tables, int views) {
        StringBuilder text = new StringBuilder();
        for (int k = 0; k < tables; k++) {
            text.append("table t").append((char) ('a' + k)).append(" 1;");
        }
        for (int k = 0; k < views; k++) {
            text.append("view v").append((char) ('a' + k)).append("=distinct ta;");
        }
        return text.toString();
    }

    /** A change that must come to the batch. */
    static void change(BagTree x, int table, int a, int b, int n) {
        if (x.change(table, a, b, 77, -77, n) == NONE) {
            due("change(" + table + ", " + a + ", " + b + ", .., " + n + ")", NONE, 0);
        }
    }

    /** The tuples of a bag as a text: "1,2:1 1,3:-2". */
    static String bag(BagTree x, int relation) {
        StringBuilder text = new StringBuilder();
        int size = x.size(relation);
        int columns = x.of(relation, 1);
        for (int i = 0; i < size; i++) {
            text.append(i == 0 ? "" : " ");
            for (int c = 0; c < columns; c++) {
                text.append(c == 0 ? "" : ",").append(x.at(relation, i, c));
            }
            text.append(":").append(x.at(relation, i, 4));
        }
        return text.toString();
    }

    static String moves(BagTree x, int relation) {
        StringBuilder text = new StringBuilder();
        int moved = x.moved(relation);
        int columns = x.of(relation, 1);
        for (int i = 0; i < moved; i++) {
            text.append(i == 0 ? "" : " ");
            for (int c = 0; c < columns; c++) {
                text.append(c == 0 ? "" : ",").append(x.movedAt(relation, i, c));
            }
            text.append(":").append(x.movedAt(relation, i, 4));
        }
        return text.toString();
    }

    /** A tuple from, from + 1, .. to - 1 each once comes to a table, 40 in a batch; the last batch is not done. */
    static void fill(BagTree x, int table, int from, int to) {
        for (int k = from; k < to; k++) {
            if (x.change(table, k, 0, 0, 0, 1) == 40) {
                due("a part of the filling is done", x.commit() >= 0 ? 1 : 0, 1);
            }
        }
    }

    static int wrongSoFar() {
        return wrong;
    }

    static void finish(String name) {
        System.out.println(name + ": " + checks + " checks, " + wrong + " wrong");
        if (wrong != 0) {
            System.exit(1);
        }
    }
}
