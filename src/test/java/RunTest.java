import java.io.IOException;
import java.nio.file.Files;
import java.nio.file.Path;
import java.util.List;

/**
 * That the command which README.md names runs the tests: tried on small projects, of which only .ci/run is this
 * project's own.
 */
public final class RunTest {
    private static final String PASSES = "";
    private static final String FAILS = "System.exit(1);";
    private static final String DOES_NOT_COMPILE = "x";
    private static final String THROWS = "new TypedColumns().fail();";

    private static List<String> command;

    public static void main(String[] args) throws IOException, InterruptedException {
        command = new Document(Project.readme()).block("How to run its tests", "sh");
        Check.same("the command", command, List.of(".ci/run"));
        Check.same("whether .ci/run is executable", Files.isExecutable(Project.file(".ci/run")), true);
        everyTestIsRun();
        aTestThatFailsFailsTheRun();
        withoutSharedTestsTheRunFails();
        Check.end();
    }

    private static void everyTestIsRun() throws IOException, InterruptedException {
        Shell run = Shell.run(project(PASSES, PASSES), command);
        Check.same("the exit code, if all tests pass", run.exit, 0);
        everyTestTellsOfItself(run, "all tests pass");
    }

    private static void aTestThatFailsFailsTheRun() throws IOException, InterruptedException {
        Shell own = Shell.run(project(FAILS, PASSES), command);
        Check.same("the exit code, if a test of the project fails", own.exit, 1);
        everyTestTellsOfItself(own, "a test of the project fails");
        Shell shared = Shell.run(project(PASSES, FAILS), command);
        Check.same("the exit code, if a shared test fails", shared.exit, 1);
        everyTestTellsOfItself(shared, "a shared test fails");
        exitsWith1("a test of the project throws", project(THROWS, PASSES));
        exitsWith1("a shared test throws", project(PASSES, THROWS));
        exitsWith1("a test of the project doesn't compile", project(DOES_NOT_COMPILE, PASSES));
        exitsWith1("a shared test doesn't compile", project(PASSES, DOES_NOT_COMPILE));
    }

    private static void withoutSharedTestsTheRunFails() throws IOException, InterruptedException {
        Path root = project(PASSES, PASSES);
        Path shared = root.resolveSibling("shared");
        Files.move(shared, root.resolveSibling("elsewhere"));
        exitsWith1("there are no shared tests", root);
    }

    private static void exitsWith1(String state, Path root) throws IOException, InterruptedException {
        Check.same("the exit code, if " + state, Shell.run(root, command).exit, 1);
    }

    private static void everyTestTellsOfItself(Shell run, String state) {
        for (String name : new String[] {"FirstTest", "SecondTest", "FirstRuns", "SecondRuns"}) {
            Check.same("whether " + name + " is run, if " + state, run.lines.contains(name + " is run"), true);
        }
    }

    /** A project with two tests and two shared ones, of which the first ones end with the words given. */
    private static Path project(String ownEnd, String sharedEnd) throws IOException {
        Path place = Files.createTempDirectory("run");
        Path root = place.resolve("project");
        Path script = root.resolve(".ci/run");
        Files.createDirectories(script.getParent());
        Files.copy(Project.file(".ci/run"), script);
        script.toFile().setExecutable(true);
        write(root.resolve("src/main/java"), "TypedColumns",
                "void fail() { throw new IllegalStateException(); }");
        write(root.resolve("src/test/java"), "FirstTest", mainMethod("FirstTest", ownEnd));
        write(root.resolve("src/test/java"), "SecondTest", mainMethod("SecondTest", PASSES));
        write(place.resolve("shared/tests"), "FirstRuns", mainMethod("FirstRuns", sharedEnd));
        write(place.resolve("shared/tests"), "SecondRuns", mainMethod("SecondRuns", PASSES));
        return root;
    }

    private static String mainMethod(String name, String end) {
        return "public static void main(String[] args) { System.out.println(\"" + name + " is run\"); " + end + " }";
    }

    private static void write(Path directory, String name, String inside) throws IOException {
        Files.createDirectories(directory);
        Files.writeString(directory.resolve(name + ".java"), "public final class " + name + " { " + inside + " }\n");
    }
}
