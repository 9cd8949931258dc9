import java.io.IOException;
import java.lang.reflect.Method;
import java.lang.reflect.Modifier;
import java.nio.file.Files;
import java.nio.file.Path;

/** The README's example does what its comments say, and the README tells of each call of the face. */
final class ReadmeTest {
    private static final Path README = Path.of("README.md");
    private static final Path OWN_SOURCE = Path.of("src", "test", "java", "ReadmeTest.java");

    private ReadmeTest() {
    }

    public static void main(String[] args) throws IOException {
        Checks checks = new Checks();
        runExample(checks);
        String readme = Files.readString(README);
        checkExampleIsTheSame(readme, checks);
        for (Method method : BranchGoals.class.getDeclaredMethods()) {
            if (Modifier.isPublic(method.getModifiers())) {
                boolean isTold = readme.contains("`" + method.getName() + "(");
                checks.due("the README tells of " + method.getName(), isTold, true);
            }
        }
        checks.end();
    }

    private static void runExample(Checks checks) {
        BranchGoals search = new BranchGoals(7);
        search.line(0, 5, 0, 1, 2);
        search.line(0, 8, 0, 0, 0);
        search.line(0, 9, 0, 0, 0);
        int goals = search.start();
        checks.due("start()", goals, 2);

        search.put(0, 5, 5, -1);
        int covered = search.run();
        checks.due("run()", covered, 2);

        for (int n = 0; n < 50 && search.active() != 0; n++) {
            search.evolve();
        }
        int cases = search.finish();
        checks.due("finish()", cases, 2);
        int steps = search.length(201);
        checks.due("length(201)", steps, 1);
        long result = search.result(201, 0);
        checks.due("result(201, 0)", result, 4294967298L);
    }

    /** Each line of the example stands in this file too, so that what is run above is what is shown there. */
    private static void checkExampleIsTheSame(String readme, Checks checks) throws IOException {
        String own = Files.readString(OWN_SOURCE);
        int begin = readme.indexOf("```java\n") + "```java\n".length();
        String example = readme.substring(begin, readme.indexOf("```", begin));
        checks.due("the README has an example", example.lines().count() > 5, true);
        example.lines().map(line -> line.replaceAll("//.*", "").strip())
                .forEach(line -> checks.due("the example's line " + line + " is run", own.contains(line), true));
    }
}
