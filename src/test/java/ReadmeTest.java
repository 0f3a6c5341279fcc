import java.io.ByteArrayOutputStream;
import java.io.File;
import java.io.IOException;
import java.io.PrintStream;
import java.nio.file.Files;
import java.nio.file.Paths;
import java.util.ArrayList;
import java.util.Arrays;
import java.util.LinkedHashMap;
import java.util.List;
import java.util.Map;
import java.util.TreeSet;
import java.util.regex.Matcher;
import java.util.regex.Pattern;

/** README.md says what the document, the class and .ci/run do; it is run in the project's directory. */
public final class ReadmeTest {
    private static final Pattern PROMISED =
            Pattern.compile("public ((?:int|long|double) (\\w+)\\([^)]*\\))(?: throws ([\\w, ]+))?;");
    private static final Pattern RANGE = Pattern.compile("-?\\d+ to \\d+");
    private static final Pattern TEST_NAME = Pattern.compile("`(\\w+(?:Test|Edges|Arms))`");

    private final String page;
    private final String document;
    private final String ci;

    private ReadmeTest() throws IOException {
        page = textOf("README.md");
        document = textOf("../shared/DOC.md");
        ci = textOf(".ci/run");
    }

    public static void main(String[] args) throws IOException {
        ReadmeTest test = new ReadmeTest();
        test.example();
        test.calls();
        test.bounds();
        test.firstValues();
        test.texts();
        test.endOfRun();
        test.filesOfTests();
        Check.end();
    }

    private static String textOf(String path) throws IOException {
        return Files.readString(Paths.get(path));
    }

    private void stands(String words) {
        Check.due("README.md says \"" + words + "\"; that", page.contains(words));
    }

    /** The example is the file that is told, and prints what is told. */
    private void example() throws IOException {
        stands("```java\n" + textOf("src/test/java/Example.java") + "```\n");
        PrintStream screen = System.out;
        ByteArrayOutputStream printed = new ByteArrayOutputStream();
        System.setOut(new PrintStream(printed, true));
        try {
            Example.main(new String[0]);
        } finally {
            System.setOut(screen);
        }
        stands("```text\n" + printed.toString().replace("\r\n", "\n") + "```\n");
    }

    /** Each call of the document's face has one row, with its exceptions in their order, and whether it is undoable. */
    private void calls() {
        Map<String, String> due = new LinkedHashMap<>();
        Matcher face = PROMISED.matcher(document);
        while (face.find()) {
            String thrown = face.group(3) == null ? "-" : "`" + face.group(3).replace(", ", "`, `") + "`";
            due.put(face.group(1), thrown + " | " + (isUndoable(face.group(2)) ? "yes" : "no"));
        }
        Check.due("calls of the document", due.size(), 24);
        Map<String, String> told = new LinkedHashMap<>();
        for (List<String> row : rows("Call")) {
            Check.due("a call has an answer", !row.get(1).isEmpty());
            told.put(row.get(0).replace("`", ""), row.get(2) + " | " + row.get(3));
        }
        Check.due("README.md has " + told + ", due is " + due + "; that",
                new ArrayList<>(told.entrySet()).equals(new ArrayList<>(due.entrySet())));
    }

    private boolean isUndoable(String name) {
        Matcher promise = Pattern.compile("## Promise \\d+: " + name + "\n(.*?)\n## ", Pattern.DOTALL).matcher(document);
        return promise.find() && promise.group(1).contains("Undoable");
    }

    /** The rows below the head of the table whose first column has this name. */
    private List<List<String>> rows(String first) {
        List<List<String>> rows = new ArrayList<>();
        boolean inside = false;
        for (String line : page.split("\n")) {
            if (line.startsWith("| " + first + " |")) {
                inside = true;
            } else if (!line.startsWith("|")) {
                inside = false;
            } else if (inside && !line.startsWith("|--")) {
                rows.add(Arrays.asList(line.substring(2, line.length() - 2).split(" \\| ")));
            }
        }
        return rows;
    }

    /** Where the document gives a number one range by all calls, the page gives it the same. */
    private void bounds() {
        Map<String, String> told = new LinkedHashMap<>();
        for (List<String> row : rows("What is given")) {
            for (String name : row.get(0).split(", ")) {
                told.put(name, row.get(1));
            }
        }
        Matcher given = Pattern.compile("\n- (`\\w+`): ([^\n]*)").matcher(document);
        while (given.find()) {
            String name = given.group(1);
            Check.due("README.md tells of " + name + "; that", told.containsKey(name));
            Matcher range = RANGE.matcher(given.group(2));
            if (told.containsKey(name) && range.find() && !name.equals("`what`")) {
                Check.due(name + " is " + range.group() + "; that", told.get(name).startsWith(range.group()));
            }
        }
    }

    private void firstValues() {
        RestedArms arms = new RestedArms();
        stands("the row of chances is at " + arms.sum(2) + ", and the settings are " + arms.setting(0) + ", "
                + arms.setting(1) + ", " + arms.setting(2) + " and " + arms.setting(3) + ".");
        stands("with the chance " + arms.stateOf(0, 0, 3) + ",");
        stands("`NONE` is " + RestedArms.NONE + ".");
        int[][] values = {{0, 99}, {1, 60}, {0, 99}};
        for (int setting = 0; setting < values.length; setting++) {
            stands((setting == 0 ? "the setting " : "of ") + setting + ": " + values[setting][0] + " to "
                    + values[setting][1] + ";");
            arms.set(setting, values[setting][0]);
            arms.set(setting, values[setting][1]);
        }
    }

    /** The parts that the page explains are read as it explains them. */
    private void texts() {
        stands("`0b=90` gives the arm 0 in its state 1 (`a` to `d` are 0 to 3) the gift 90");
        stands("as in `0a=10>ba4`, it also gets the good state `b`, the bad state `a` and the chance 4");
        RestedArms arms = Made.told("0b=90;0a=10>ba4");
        Check.due("the gift", arms.stateOf(0, 1, 0), 90);
        Check.due("the way", arms.way(0, 0, 0, 0, 0), 104);
    }

    /** What the page quotes of .ci/run is what that prints. */
    private void endOfRun() {
        for (String words : new String[] {"== ", "all tests pass", "failed:", "no tests under ../shared/tests"}) {
            stands("`" + words + "`");
            Check.due(".ci/run prints \"" + words + "\"; that", ci.contains("echo \"" + words));
        }
        stands("`all answers are as due`");
        Check.due(".ci/run may be called", new File(".ci/run").canExecute());
    }

    /** Every test stands on the page, and every test that stands there can be found. */
    private void filesOfTests() {
        TreeSet<String> due = new TreeSet<>();
        for (String file : new File("src/test/java").list()) {
            String name = "`" + file.replace(".java", "") + "`";
            if (TEST_NAME.matcher(name).matches()) {
                due.add(name);
            }
        }
        TreeSet<String> told = new TreeSet<>();
        Matcher named = TEST_NAME.matcher(page);
        while (named.find()) {
            told.add(named.group());
        }
        Check.due("README.md names the tests " + told + ", due are " + due + "; that", told.equals(due));
    }
}
