import java.io.IOException;
import java.lang.reflect.Constructor;
import java.lang.reflect.Field;
import java.lang.reflect.Method;
import java.lang.reflect.Modifier;
import java.nio.file.Files;
import java.nio.file.Path;
import java.util.ArrayList;
import java.util.Arrays;
import java.util.Collections;
import java.util.List;

/**
 * The class shows the document's face and nothing else, and keeps to some rules of LANGUAGE.md that
 * a program can look at. It runs in the root of the project, as .ci/run does it.
 */
public final class FaceTest {
    private static final String[] FACE = {
        "int addArticle(int, int) IllegalArgumentException IllegalStateException",
        "int setPrice(int, int) IndexOutOfBoundsException IllegalArgumentException",
        "int put(int, int) IndexOutOfBoundsException IllegalArgumentException",
        "int value()",
        "int setShipping(int, int) IllegalArgumentException",
        "int addCoupon(int, int, int, int, int) IllegalArgumentException IllegalStateException",
        "int setUses(int, int) IndexOutOfBoundsException IllegalArgumentException",
        "int matching(int) IndexOutOfBoundsException",
        "boolean fits(int) IndexOutOfBoundsException",
        "int missing(int) IndexOutOfBoundsException",
        "boolean isAllowed(int) IllegalArgumentException",
        "int goods(int) IllegalArgumentException IllegalStateException",
        "int total(int) IllegalArgumentException IllegalStateException",
        "int rest(int, int) IllegalArgumentException IndexOutOfBoundsException IllegalStateException",
        "int best()",
        "int worth(int) IndexOutOfBoundsException",
        "int buy(int) IllegalArgumentException IllegalStateException",
        "int giveBack(int, int, int) IndexOutOfBoundsException IllegalArgumentException",
        "int orderCount()",
        "int order(int, int) IndexOutOfBoundsException",
        "int pieces(int, int) IndexOutOfBoundsException",
        "double level()",
        "long digest()",
    };

    private static int wrong = 0;

    private static void holds(boolean right, String what) {
        if (!right) {
            wrong++;
            System.out.println(what);
        }
    }

    private static String told(Method m) {
        List<String> types = new ArrayList<>();
        for (Class<?> type : m.getParameterTypes()) {
            types.add(type.getSimpleName());
        }
        StringBuilder s = new StringBuilder(m.getReturnType().getSimpleName());
        s.append(' ').append(m.getName()).append('(').append(String.join(", ", types)).append(')');
        for (Class<?> type : m.getExceptionTypes()) {
            s.append(' ').append(type.getSimpleName());
        }
        return s.toString();
    }

    private static void face() {
        List<String> want = new ArrayList<>(Arrays.asList(FACE));
        List<String> got = new ArrayList<>();
        List<String> names = new ArrayList<>();
        for (Method m : CouponDesk.class.getDeclaredMethods()) {
            if (!Modifier.isPrivate(m.getModifiers())) {
                holds(m.getModifiers() == Modifier.PUBLIC, m + " is more than public");
                got.add(told(m));
                names.add(m.getName());
            }
        }
        Collections.sort(want);
        Collections.sort(got);
        holds(want.equals(got), "the face is " + got);
        holds(CouponDesk.class.getModifiers() == (Modifier.PUBLIC | Modifier.FINAL), "the class is not public final");
        Constructor<?>[] made = CouponDesk.class.getDeclaredConstructors();
        holds(made.length == 1 && made[0].getModifiers() == Modifier.PUBLIC && made[0].getParameterCount() == 0
            && made[0].getExceptionTypes().length == 0, "the constructor is another one");
        inside(CouponDesk.class, names);
        for (Class<?> c : CouponDesk.class.getDeclaredClasses()) {
            holds(!Modifier.isPublic(c.getModifiers()) && !Modifier.isProtected(c.getModifiers())
                && Modifier.isStatic(c.getModifiers()), c + " is not private static");
            inside(c, names);
        }
    }

    private static void inside(Class<?> c, List<String> publicNames) {
        int fields = 0;
        for (Field f : c.getDeclaredFields()) {
            boolean fixed = Modifier.isStatic(f.getModifiers());
            fields += fixed ? 0 : 1;
            holds(Modifier.isPrivate(f.getModifiers()), f + " is not private");
            holds(!fixed || Modifier.isFinal(f.getModifiers()), f + " is static and not final");
        }
        holds(fields <= 20, c + " has " + fields + " fields");
        for (Method m : c.getDeclaredMethods()) {
            holds(!Modifier.isPrivate(m.getModifiers()) || !publicNames.contains(m.getName()),
                m + " is private and bears a public name");
            holds(m.getParameterCount() <= 7, m + " takes more than seven");
        }
    }

    private static void source() throws IOException {
        String text = Files.readString(Path.of("src/main/java/CouponDesk.java"));
        String[] forbidden = {"->", "::", "finally", "synchronized", "assert", "instanceof", "catch", "package ",
            "java.util.Random", "System.out", "System.in", "System.currentTimeMillis", "System.nanoTime", "Exact("};
        for (String word : forbidden) {
            holds(!text.contains(word), "the class uses " + word);
        }
        for (String line : text.split("\n")) {
            holds(!line.startsWith("import") || line.equals("import java.util.Arrays;"), "the class has the " + line);
        }
        holds(text.chars().allMatch(c -> c < 128), "the class has signs above 127");
    }

    public static void main(String[] args) throws IOException {
        face();
        source();
        System.out.println(wrong == 0 ? "the face is as due" : wrong + " things are not as due");
        if (wrong != 0) {
            System.exit(1);
        }
    }
}
