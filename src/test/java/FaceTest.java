import java.lang.reflect.Constructor;
import java.lang.reflect.Field;
import java.lang.reflect.Member;
import java.lang.reflect.Method;
import java.lang.reflect.Modifier;
import java.util.Arrays;
import java.util.Set;
import java.util.TreeSet;

/** The public face is the document's, and no member but it can be seen from outside. */
public final class FaceTest {
    private static final String[] FACE = {
        "feed long long long", "end int", "plan", "change int int int int int int", "pending int int !",
        "cancel", "commit", "would int", "undo", "size int", "at int int int !", "count int int int int int !",
        "total int !", "moved int", "movedAt int int int !", "came int", "round int int int int int",
        "rounds int", "differs int", "of int int", "column int int int !", "told int",
    };

    private FaceTest() {
    }

    public static void main(String[] args) {
        Class<?> face = BagTree.class;
        Checks.due("public and final", face.getModifiers(), Modifier.PUBLIC | Modifier.FINAL);
        Checks.due("NONE", BagTree.NONE, -1);
        Set<String> seen = new TreeSet<>();
        Set<String> publicNames = new TreeSet<>();
        for (Method m : face.getDeclaredMethods()) {
            if (Modifier.isPublic(m.getModifiers())) {
                seen.add(told(m));
                publicNames.add(m.getName());
            }
        }
        Set<String> wanted = new TreeSet<>(Arrays.asList(FACE));
        if (!seen.equals(wanted)) {
            System.out.println("the face is " + seen + ", due is " + wanted);
        }
        Checks.due("the face", seen.equals(wanted) ? 1 : 0, 1);
        hidden(face.getDeclaredMethods(), publicNames);
        hidden(face.getDeclaredFields(), Set.of("NONE"));
        for (Constructor<?> c : face.getDeclaredConstructors()) {
            Checks.due("a constructor without parameters", c.getParameterCount(), 0);
            Checks.due("a public constructor", c.getModifiers(), Modifier.PUBLIC);
        }
        for (Class<?> inside : face.getDeclaredClasses()) {
            Checks.due(inside + " is static", Modifier.isStatic(inside.getModifiers()) ? 1 : 0, 1);
            Checks.due(inside + " is not public", Modifier.isPublic(inside.getModifiers()) ? 1 : 0, 0);
            for (Method m : inside.getDeclaredMethods()) {
                Checks.due(m + " has a name of the face", publicNames.contains(m.getName()) ? 1 : 0, 0);
            }
            staticsAreFinal(inside);
        }
        staticsAreFinal(face);
        Checks.finish("FaceTest");
    }

    private static String told(Method m) {
        StringBuilder text = new StringBuilder(m.getName());
        for (Class<?> p : m.getParameterTypes()) {
            text.append(' ').append(p.getSimpleName());
        }
        Checks.due(m + " answers an int", m.getReturnType() == int.class ? 1 : 0, 1);
        return text.append(m.getExceptionTypes().length == 1 ? " !" : "").toString();
    }

    private static void hidden(Member[] members, Set<String> publicNames) {
        for (Member m : members) {
            boolean isPublic = Modifier.isPublic(m.getModifiers());
            Checks.due(m + " is of the face", isPublic ? 1 : 0, publicNames.contains(m.getName()) ? 1 : 0);
            Checks.due(m + " can be seen", isPublic || Modifier.isPrivate(m.getModifiers()) ? 1 : 0, 1);
        }
    }

    private static void staticsAreFinal(Class<?> c) {
        for (Field f : c.getDeclaredFields()) {
            if (Modifier.isStatic(f.getModifiers())) {
                Checks.due(f + " is final", Modifier.isFinal(f.getModifiers()) ? 1 : 0, 1);
            }
        }
    }
}
