import java.io.IOException;
import java.io.UncheckedIOException;
import java.nio.file.Files;
import java.nio.file.Path;
import java.util.ArrayList;
import java.util.HashSet;
import java.util.LinkedHashMap;
import java.util.List;
import java.util.Map;
import java.util.Set;
import java.util.TreeSet;

/**
 * The sentences of ../shared/DOC.md. A test quotes the words that it looks at next; they must stand in the
 * document, and at its end each sentence of its share of the document must have been quoted.
 */
final class Doc {
    private static final Path DOC = Path.of("../shared/DOC.md");
    private static final Map<String, List<String>> SECTIONS = read();
    private static final Set<String> QUOTED = new HashSet<>();
    private static String current = "";
    private static int lookedBefore;

    /** Which test has which sections: those of "Terms" by the words above them, and the promises by their numbers. */
    private static final Map<String, List<String>> SHARES = Map.of(
        "FaceTest", List.of("The constants"),
        "TermsTest", List.of("Terms", "Bars", "Tempo", "Cues"),
        "RefusedTest", List.of("Exceptions"),
        "PieceTest", List.of("1", "2", "3", "4", "5", "6", "7", "8", "9", "10"),
        "HistoryTest", List.of("History and images", "11", "12", "13"),
        "InputTest", List.of("Input text", "14", "15", "16"),
        "PlayingTest", List.of("Playing", "17", "18", "19", "20"),
        "ReadingTest", List.of("21", "22", "23", "24", "25", "26", "27"),
        "AheadTest", List.of("28", "29", "30", "31", "32"));

    private Doc() {
    }

    static void says(int promise, String words) {
        says(Integer.toString(promise), words);
    }

    static void says(String section, String words) {
        endSentence();
        current = (isPromise(section) ? "promise " : "") + section + ", \"" + words + "\": ";
        Check.about(current);
        List<String> found = new ArrayList<>();
        for (String sentence : SECTIONS.getOrDefault(section, List.of())) {
            if (sentence.contains(words)) {
                found.add(sentence);
            }
        }
        if (found.size() != 1) {
            Check.complain("this stands in " + found.size() + " sentences of DOC.md");
        }
        found.forEach(sentence -> QUOTED.add(section + " " + sentence));
    }

    private static boolean isPromise(String section) {
        return Character.isDigit(section.charAt(0));
    }

    private static void endSentence() {
        if (!current.isEmpty() && Check.looked() == lookedBefore) {
            Check.complain("nothing is looked at");
        }
        lookedBefore = Check.looked();
    }

    static void close(Class<?> test) {
        endSentence();
        Check.about("");
        Set<String> shared = new TreeSet<>();
        SHARES.values().forEach(shared::addAll);
        Check.sameText("the sections that tests share", new TreeSet<>(SECTIONS.keySet()).toString(), shared.toString());
        for (String section : SHARES.get(test.getName())) {
            for (String sentence : SECTIONS.getOrDefault(section, List.of())) {
                Check.isTrue("a test quotes " + section + ": " + sentence, QUOTED.contains(section + " " + sentence));
            }
        }
        Check.close();
    }

    /** The lines of the class in "The public face". */
    static List<String> face() {
        List<String> lines = lines();
        int first = lines.indexOf("```java") + 1;
        return lines.subList(first, first + lines.subList(first, lines.size()).indexOf("```"));
    }

    private static Map<String, List<String>> read() {
        return sections(lines());
    }

    private static List<String> lines() {
        try {
            return Files.readAllLines(DOC);
        } catch (IOException e) {
            throw new UncheckedIOException(e);
        }
    }

    private static Map<String, List<String>> sections(List<String> lines) {
        Map<String, List<String>> sections = new LinkedHashMap<>();
        String section = "";
        for (String line : lines) {
            if (line.startsWith("## ")) {
                section = headed(line);
            } else if (section.equals("") || line.isBlank() || line.startsWith("Ahead of the calls ")) {
                continue;
            } else if (!isPromise(section) && line.matches("[A-Z][a-z ]+\\.")) {
                section = line.substring(0, line.length() - 1);
            } else if (line.startsWith("Exceptions. ")) {
                section = "Exceptions";
                add(sections, section, line.substring("Exceptions. ".length()));
            } else if (line.startsWith("The constants: ")) {
                add(sections, "The constants", line);
            } else {
                add(sections, section, line);
            }
        }
        return sections;
    }

    /** The parts before "Terms" and behind the promises promise nothing. */
    private static String headed(String line) {
        if (line.equals("## Terms")) {
            return "Terms";
        }
        return line.startsWith("## Promise ") ? line.substring("## Promise ".length(), line.indexOf(':')) : "";
    }

    private static void add(Map<String, List<String>> sections, String section, String line) {
        List<String> sentences = sections.computeIfAbsent(section, name -> new ArrayList<>());
        sentences.addAll(List.of(line.split("(?<=[.)])\\s+(?=[A-Z(])")));
    }
}
