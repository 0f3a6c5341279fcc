import java.io.IOException;
import java.nio.file.Files;
import java.nio.file.Paths;
import java.util.ArrayList;
import java.util.LinkedHashMap;
import java.util.List;
import java.util.Map;

/** The sentences of ../shared/DOC.md, by the headings that they stand under. */
final class Document {
    /** What the document tells of its own form alone. */
    private static final String FORM = "Ahead of the calls ";

    private final Map<String, List<String>> sections = new LinkedHashMap<>();

    Document() throws IOException {
        List<String> section = new ArrayList<>();
        boolean code = false;
        for (String line : Files.readAllLines(Paths.get("../shared/DOC.md"))) {
            if (line.startsWith("```")) {
                code = !code;
            } else if (line.startsWith("#")) {
                section = new ArrayList<>();
                sections.put(nameOf(line), section);
            } else if (!code && !line.isBlank()) {
                addSentences(section, line);
            }
        }
    }

    /** "Promise 2" for "## Promise 2: gift", otherwise the heading's own words. */
    private static String nameOf(String heading) {
        String words = heading.replaceFirst("^#+ ", "");
        return words.startsWith("Promise ") ? words.substring(0, words.indexOf(':')) : words;
    }

    /** A point of a list is one sentence; the head of a method is none. */
    private static void addSentences(List<String> section, String line) {
        if (line.startsWith("- ")) {
            section.add(line.substring(2));
            return;
        }
        for (String sentence : line.replaceFirst("^`[^`]*\\)[^`]*`: ", "").split("(?<=[.)]) (?=[A-Z(])")) {
            section.add(sentence);
        }
    }

    /** Whether words stand in one section, be they a part of a sentence or more than one. */
    boolean says(String section, String words) {
        return sections.containsKey(section) && String.join(" ", sections.get(section)).contains(words);
    }

    /** The sentences from a section on which nothing is cited, of those that say what is promised. */
    List<String> uncited(Map<String, List<String>> cited) {
        List<String> left = new ArrayList<>();
        for (Map.Entry<String, List<String>> section : sections.entrySet()) {
            for (String sentence : section.getValue()) {
                if (isPromised(section.getKey(), sentence) && !isCited(cited.get(section.getKey()), sentence)) {
                    left.add(section.getKey() + ": " + sentence);
                }
            }
        }
        return left;
    }

    private static boolean isPromised(String section, String sentence) {
        return !section.equals("RestedArms") && !section.equals("Not promised") && !sentence.startsWith(FORM)
                && !sentence.startsWith("Arms that are pulled one at a time");
    }

    private static boolean isCited(List<String> words, String sentence) {
        if (words == null) {
            return false;
        }
        for (String some : words) {
            if (some.contains(sentence) || sentence.contains(some)) {
                return true;
            }
        }
        return false;
    }
}
