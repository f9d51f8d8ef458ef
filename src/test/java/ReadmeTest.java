import java.io.IOException;
import java.lang.reflect.Method;
import java.lang.reflect.Modifier;
import java.nio.file.DirectoryStream;
import java.nio.file.Files;
import java.nio.file.Path;
import java.util.ArrayList;
import java.util.List;
import java.util.Set;
import java.util.TreeSet;
import java.util.regex.Matcher;
import java.util.regex.Pattern;

/** What README.md says of the class and of its tests. */
public final class ReadmeTest {
    private static final String USE = "How to use it";
    private static final String TESTS = "How to run its tests";
    private static final String NEW_OBJECT = "TypedColumns x = new TypedColumns();";
    // "x.call(..);  // answer: words" or "int name = x.call(..);  // answer: words"
    private static final Pattern CALL =
            Pattern.compile("((?:\\w+ (\\w+) = )?(x\\.\\w+\\([^()]*\\)));  *// ([^:]+)(?:: .+)?");
    private static final Pattern NUMBERED = Pattern.compile("\\b(\\d) ([A-Z]+(?:_[A-Z]+)*)\\b");
    private static final Pattern QUOTED = Pattern.compile("`(\\w+)`");

    public static void main(String[] args) throws IOException, InterruptedException {
        Document readme = new Document(Project.readme());
        theCallsGiveTheAnswers(readme);
        theMethodsAreThoseOfTheFace(readme);
        kindsAndCodesAreThoseOfTheDocument(readme);
        theTestsAreThoseOfTheProject(readme);
        Check.end();
    }

    /** Makes Use.java of the calls, and compiles and runs it by the very commands of the page. */
    private static void theCallsGiveTheAnswers(Document readme) throws IOException, InterruptedException {
        List<String> calls = new ArrayList<>();
        List<String> due = new ArrayList<>();
        StringBuilder use = new StringBuilder("class Use { public static void main(String[] args) {\n");
        for (String line : readme.block(USE, "java")) {
            if (line.equals(NEW_OBJECT)) {
                use.append(line).append('\n');
                continue;
            }
            Matcher call = CALL.matcher(line);
            Check.same("whether a call and its answer stand in '" + line + "'", call.matches(), true);
            if (call.matches()) {
                use.append(printing(call)).append('\n');
                calls.add(call.group(1));
                due.add(call.group(4));
            }
        }
        use.append("} }\n");
        Path directory = Files.createTempDirectory("readme");
        Path main = directory.resolve("src/main/java/TypedColumns.java");
        Files.createDirectories(main.getParent());
        Files.copy(Project.main(), main);
        Files.writeString(directory.resolve("Use.java"), use);
        Shell shell = Shell.run(directory, readme.block(USE, "sh"));
        Check.same("the exit code of the commands (" + shell.complaints + ")", shell.exit, 0);
        Check.same("whether there are calls", calls.size() > 0, true);
        Check.same("how many answers were printed", shell.lines.size(), due.size());
        for (int k = 0; k < Math.min(due.size(), shell.lines.size()); k++) {
            Check.same(calls.get(k), shell.lines.get(k), due.get(k));
        }
    }

    private static String printing(Matcher call) {
        String name = call.group(2);
        if (name != null) {
            return call.group(1) + "; System.out.println(" + name + ");";
        }
        return "try { System.out.println(" + call.group(3) + "); } catch (RuntimeException e) {"
                + " System.out.println(\"throws \" + e.getClass().getSimpleName()); }";
    }

    private static void theMethodsAreThoseOfTheFace(Document readme) {
        Set<String> face = new TreeSet<>();
        for (Method method : TypedColumns.class.getDeclaredMethods()) {
            if (Modifier.isPublic(method.getModifiers())) {
                face.add(method.getName());
            }
        }
        Check.same("the methods of the table", namesInTable(readme, USE), face);
    }

    private static void kindsAndCodesAreThoseOfTheDocument(Document readme) throws IOException {
        Document document = new Document(Project.document());
        List<String> kinds = numbered(document, "Description", "Columns. ");
        List<String> codes = numbered(document, "Description", "Codes. ");
        Check.same("how many kinds there are", kinds.size(), 10);
        Check.same("how many codes there are", codes.size(), 6);
        Check.same("the kinds", numbered(readme, USE, "Kinds: "), kinds);
        Check.same("the codes", numbered(readme, USE, "Codes: "), codes);
    }

    private static void theTestsAreThoseOfTheProject(Document readme) throws IOException {
        Set<String> tests = new TreeSet<>();
        try (DirectoryStream<Path> files = Files.newDirectoryStream(Project.file("src/test/java"), "*Test.java")) {
            for (Path file : files) {
                tests.add(file.getFileName().toString().replace(".java", ""));
            }
        }
        Check.same("the tests of the table", namesInTable(readme, TESTS), tests);
    }

    /** The names in the first column of the table under a heading. */
    private static Set<String> namesInTable(Document page, String heading) {
        Set<String> names = new TreeSet<>();
        for (String line : page.lines(heading)) {
            if (line.startsWith("| `")) {
                Matcher name = QUOTED.matcher(line.substring(0, line.indexOf('|', 1)));
                while (name.find()) {
                    Check.same("whether the table has " + name.group(1) + " but once", names.add(name.group(1)), true);
                }
            }
        }
        return names;
    }

    /** The names in capitals behind their numbers, in the line that begins with some words. */
    private static List<String> numbered(Document page, String heading, String beginning) {
        List<String> found = new ArrayList<>();
        for (String line : page.lines(heading)) {
            if (line.startsWith(beginning)) {
                Matcher name = NUMBERED.matcher(line);
                while (name.find()) {
                    found.add(name.group());
                }
            }
        }
        return found;
    }
}
