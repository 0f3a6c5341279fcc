import java.io.IOException;
import java.nio.file.Files;
import java.nio.file.Paths;
import java.util.regex.Matcher;
import java.util.regex.Pattern;

/** What a look at the source tells of the rules of LANGUAGE.md; it is run in the project's directory. */
public final class SourceTest {
    private static final String[] RULED_OUT = {
        "\\bimport\\b", "\\bpackage\\b", "\\bcatch\\b", "\\bfinally\\b", "\\bassert\\b", "\\bsynchronized\\b",
        "->", "::", "Exact\\(", "\\bDouble\\b", "\\bFloat\\b", "\\bLong\\.", "\\bObject\\b", "\\bRandom\\b",
        "currentTimeMillis", "nanoTime", "\\bThread\\b", "Math\\.(abs|sqrt|pow|floor\\(|round)", "@Override",
        "\\b(equals|hashCode|toString)\\b", "\"\\s*\\+", "\\+\\s*\"", "while\\s*\\("
    };
    private static final Pattern THROWN = Pattern.compile("throw (?!new (IndexOutOfBoundsException"
            + "|IllegalArgumentException|IllegalStateException)\\(\"[^\"]*\"\\);)");

    private SourceTest() {
    }

    public static void main(String[] args) throws IOException {
        String source = Files.readString(Paths.get("src/main/java/RestedArms.java"));
        for (String no : RULED_OUT) {
            Matcher matcher = Pattern.compile(no).matcher(source);
            Check.due("the source has no " + no, !matcher.find());
        }
        Check.due("exceptions are new ones with a written text", !THROWN.matcher(source).find());
        for (int i = 0; i < source.length(); i++) {
            if (source.charAt(i) > 126 || source.charAt(i) < 32 && source.charAt(i) != '\n') {
                Check.fail("the sign " + (int) source.charAt(i) + " stands at " + i);
            }
        }
        Check.end();
    }
}
