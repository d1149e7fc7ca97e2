import java.io.IOException;
import java.lang.reflect.Method;
import java.lang.reflect.Modifier;
import java.nio.file.Files;
import java.nio.file.Path;

/**
 * README.md tells the truth: its example is done here row by row, each row as it stands there and
 * what it answers. It runs in the root of the project, as .ci/run does it.
 */
public final class ReadmeTest {
    private static int wrong = 0;
    private static String page = "";

    private static void holds(boolean right, String what) {
        if (!right) {
            wrong++;
            System.out.println(what);
        }
    }

    private static void row(String row, Object got, Object want) {
        holds(page.contains(row), "README.md has no row " + row);
        holds(want.equals(got), row + " answered " + got + ", due is " + want);
    }

    private static void example() {
        CouponDesk desk = new CouponDesk();
        int pen = desk.addArticle(1000, 0);
        row("int pen = desk.addArticle(1000, 0);              // 0: ", pen, 0);
        int ink = desk.addArticle(300, 1);
        row("int ink = desk.addArticle(300, 1);               // 1: ", ink, 1);
        row("desk.put(pen, 2);                                // two pens into the basket; 0 were", desk.put(pen, 2), 0);
        row("desk.put(ink, 1);\n", desk.put(ink, 1), 0);
        row("desk.setShipping(490, 2500); ", desk.setShipping(490, 2500), 0);
        int tenth = desk.addCoupon(0, 10, 1, 0, 1);
        row("int tenth = desk.addCoupon(0, 10, 1, 0, 1);      // 0: ", tenth, 0);
        int off = desk.addCoupon(1, 200, 3, 2000, 1);
        row("int off = desk.addCoupon(1, 200, 3, 2000, 1);    // 1: ", off, 1);
        int free = desk.addCoupon(3, 0, 3, 2300, 0);
        row("int free = desk.addCoupon(3, 0, 3, 2300, 0);     // 2: ", free, 2);
        row("desk.isAllowed(1 << tenth | 1 << off);           // false: ", desk.isAllowed(1 << tenth | 1 << off), false);
        row("desk.rest(1 << tenth, pen);                      // 1800: ", desk.rest(1 << tenth, pen), 1800);
        int set = desk.best();
        row("int set = desk.best();                           // 5: ", set, 5);
        row("int total = desk.total(set);                     // 2100\n", desk.total(set), 2100);
        row("int worth = desk.worth(free);                    // 490: ", desk.worth(free), 490);
        int order = desk.buy(set);
        row("int order = desk.buy(set);                       // 0; the basket is empty now", order, 0);
        holds(desk.value() == 0, "the basket is not empty");
        row("int back = desk.giveBack(order, pen, 1);         // 900\n", desk.giveBack(order, pen, 1), 900);
        row("int acting = desk.order(order, 2);               // 1: ", desk.order(order, 2), 1);
    }

    private static void everyCallIsNamed() {
        for (Method m : CouponDesk.class.getDeclaredMethods()) {
            if (Modifier.isPublic(m.getModifiers())) {
                String name = m.getName();
                holds(page.contains("`" + name + "`"), "README.md does not name " + name);
            }
        }
    }

    private static void everyTestIsNamed() {
        String[] tests = Path.of("src/test/java").toFile().list();
        for (String test : tests == null ? new String[0] : tests) {
            String name = test.replace(".java", "");
            holds(page.contains("- `" + name + "`:"), "README.md does not name " + name);
        }
    }

    public static void main(String[] args) throws IOException {
        page = Files.readString(Path.of("README.md"));
        example();
        everyCallIsNamed();
        everyTestIsNamed();
        System.out.println(wrong == 0 ? "README.md tells the truth" : wrong + " things are not as README.md tells");
        if (wrong != 0) {
            System.exit(1);
        }
    }
}
