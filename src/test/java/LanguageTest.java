import java.io.IOException;
import java.nio.file.Files;
import java.util.Arrays;
import java.util.HashSet;
import java.util.Set;
import java.util.regex.Matcher;
import java.util.regex.Pattern;

/** The rules of LANGUAGE.md that can be seen from the words of the source alone. */
public final class LanguageTest {
    private static final Set<String> NAMES = new HashSet<>(Arrays.asList("TypedColumns", "Column", "DoubleBits",
            "System", "IllegalStateException", "IllegalArgumentException", "IndexOutOfBoundsException"));
    private static final String[] BANNED = {"\\bimport\\b", "\\bpackage\\b", "->", "::", "\\btry\\b", "\\bcatch\\b",
        "\\bfinally\\b", "\\bsynchronized\\b", "\\bassert\\b", "\\bvar\\b", "\\bprotected\\b", "\\bvolatile\\b",
        "\\btransient\\b", "\\bnative\\b", "static \\{", "\\bstatic final (double|float)\\b"};

    public static void main(String[] args) throws IOException {
        String source = Files.readString(Project.main());
        String code = source.replaceAll("(?s)/\\*.*?\\*/", "").replaceAll("//[^\n]*", "")
                .replaceAll("\"[^\"\n]*\"", "\"\"");
        Matcher name = Pattern.compile("\\b[A-Z]\\w*[a-z]\\w*\\b").matcher(code);
        while (name.find()) {
            Check.same("the name " + name.group() + " is allowed", NAMES.contains(name.group()), true);
        }
        for (String banned : BANNED) {
            Check.same("the source has " + banned, Pattern.compile(banned).matcher(code).find(), false);
        }
        Matcher system = Pattern.compile("System\\.(\\w+)").matcher(code);
        while (system.find()) {
            Check.same("a method of System", system.group(1), "arraycopy");
        }
        Check.same("the source has signs beyond 127", source.chars().anyMatch(sign -> sign > 127), false);
        Check.end();
    }
}
