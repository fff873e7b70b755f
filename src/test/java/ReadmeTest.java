import java.io.IOException;
import java.lang.reflect.Method;
import java.lang.reflect.Modifier;
import java.nio.file.Files;
import java.nio.file.Path;
import java.util.List;

/** README.md names every call and every test, and its example answers what it says there. */
public final class ReadmeTest {
    private static final Check CHECK = new Check("ReadmeTest");

    private ReadmeTest() {
    }

    public static void main(String[] args) throws IOException {
        String readme = Files.readString(Path.of(args.length > 0 ? args[0] : "README.md"));
        for (Method each : ShuffleDesk.class.getDeclaredMethods()) {
            if (Modifier.isPublic(each.getModifiers())) {
                holds(readme, "| `" + each.getName() + "(");
            }
        }
        try (var tests = Files.list(Path.of("src/test/java"))) {
            tests.map(test -> test.getFileName().toString())
                    .filter(name -> name.endsWith("Test.java"))
                    .forEach(name -> holds(readme, "`" + name.replace(".java", "`")));
        }
        example(readme);
        CHECK.end();
    }

    private static void holds(String readme, String text) {
        CHECK.due("README.md has \"" + text + "\"", readme.contains(text) ? 1 : 0, 1);
    }

    private static void example(String readme) {
        for (String line : List.of(
                "ShuffleDesk desk = new ShuffleDesk();          // 4 cards\n",
                "int pack = desk.pack();                        // 0, 1, 2, 3\n",
                "int riffle = desk.riffle(2);\n",
                "long above = desk.chance(riffle, 1, pack, 0);  // 5\n",
                "long below = desk.chance(riffle, 1, pack, 1);  // 16\n",
                "desk.lots(riffle, pack, 5);                    // the pack is 2, 0, 3, 1 now\n")) {
            holds(readme, line);
        }
        ShuffleDesk desk = new ShuffleDesk();
        CHECK.due("cards", desk.count(0), 4);
        int pack = desk.pack();
        order(desk, pack, 0, 1, 2, 3);
        int riffle = desk.riffle(2);
        CHECK.due("above", desk.chance(riffle, 1, pack, 0), 5);
        CHECK.due("below", desk.chance(riffle, 1, pack, 1), 16);
        desk.lots(riffle, pack, 5);
        order(desk, pack, 2, 0, 3, 1);
    }

    private static void order(ShuffleDesk desk, int pack, int... due) {
        for (int i = 0; i < due.length; i++) {
            CHECK.due("card " + i, desk.card(pack, i), due[i]);
        }
    }
}
