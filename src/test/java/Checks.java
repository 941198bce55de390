import java.nio.charset.StandardCharsets;
import java.util.NoSuchElementException;
import java.util.function.IntSupplier;

/** What the tests share: counting wrong answers, and feeding a text. */
final class Checks {
    private static int checks = 0;
    private static int wrong = 0;

    private Checks() {
    }

    static void due(String call, long got, long want) {
        checks++;
        if (got != want) {
            wrong++;
            if (wrong <= 50) {
                System.out.println(call + " answered " + got + ", due is " + want);
            }
        }
    }

    /** The call must throw NoSuchElementException. */
    static void dueNoSuch(String call, IntSupplier what) {
        checks++;
        String got;
        try {
            got = "answered " + what.getAsInt();
        } catch (NoSuchElementException e) {
            return;
        } catch (RuntimeException e) {
            got = "threw " + e;
        }
        wrong++;
        System.out.println(call + " " + got + ", due is NoSuchElementException");
    }

    static long eightBytes(byte[] text, int from) {
        long packed = 0;
        for (int i = from; i < from + 8; i++) {
            packed = packed << 8 | (i < text.length ? text[i] & 255 : 0);
        }
        return packed;
    }

    /** Puts a text on an empty tape. */
    static void feed(BagTree x, String text) {
        byte[] bytes = text.getBytes(StandardCharsets.ISO_8859_1);
        for (int i = 0; i < bytes.length; i += 24) {
            x.feed(eightBytes(bytes, i), eightBytes(bytes, i + 8), eightBytes(bytes, i + 16));
        }
        x.end(bytes.length);
    }

    static int plan(BagTree x, String text) {
        feed(x, text);
        return x.plan();
    }

    static BagTree planned(String text) {
        BagTree x = new BagTree();
        int got = plan(x, text);
        if (got < 0) {
            due("plan of " + text, got, 0);
        }
        return x;
    }

    static int wrongSoFar() {
        return wrong;
    }

    static void finish(String name) {
        System.out.println(name + ": " + checks + " checks, " + wrong + " wrong");
        if (wrong != 0) {
            System.exit(1);
        }
    }
}
