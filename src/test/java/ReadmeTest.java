import java.io.IOException;
import java.lang.reflect.Method;
import java.lang.reflect.Modifier;
import java.nio.file.DirectoryStream;
import java.nio.file.Files;
import java.nio.file.Path;

/** README.md tells the answers that its example gives, and names each call and each test. */
public final class ReadmeTest {
    private ReadmeTest() {
    }

    public static void main(String[] args) throws IOException {
        String readme = Files.readString(Path.of("README.md"));
        example(readme);
        everyCall(readme);
        everyTest(readme);
        Expect.end();
    }

    private static void example(String readme) {
        Expect.about("README.md, the example");
        BranchTrees x = new BranchTrees();
        int apples = x.name(0, 7);
        int pears = x.name(0, 7);
        int weight = x.row(0, 20);
        x.factor(weight, apples, 3);
        x.factor(weight, pears, 5);
        x.cost(apples, -4);
        x.cost(pears, -7);
        told(readme, "x.run(300);", x.run(300));
        told(readme, "x.best(-1);", x.best(-1));
        told(readme, "x.best(apples);", x.best(apples));
        told(readme, "x.best(pears);", x.best(pears));
        told(readme, "x.check();", x.check());
    }

    /** The number that stands behind a call of the example. */
    private static void told(String readme, String call, int answer) {
        String sign = answer < 0 ? "- " : "";
        String line = readme.lines().filter(one -> one.contains(call)).findFirst().orElse("");
        Expect.holds(call + " is told as " + answer, line.matches(".*// " + sign + Math.abs(answer) + "(:.*)?"));
    }

    private static void everyCall(String readme) {
        Expect.about("README.md, every call");
        for (Method method : BranchTrees.class.getDeclaredMethods()) {
            if (Modifier.isPublic(method.getModifiers())) {
                Expect.holds(method.getName(), readme.contains("`" + method.getName() + "("));
            }
        }
    }

    private static void everyTest(String readme) throws IOException {
        Expect.about("README.md, every test");
        try (DirectoryStream<Path> tests = Files.newDirectoryStream(Path.of("src/test/java"), "*Test.java")) {
            for (Path test : tests) {
                String name = test.getFileName().toString().replace(".java", "");
                Expect.holds(name, readme.contains("`" + name + "`"));
            }
        }
    }
}
