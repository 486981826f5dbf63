import java.io.IOException;
import java.nio.file.Files;
import java.nio.file.Path;
import java.util.regex.Matcher;
import java.util.regex.Pattern;

/** What a look at the program's text can tell of LANGUAGE.md's rules; it is run in the project's folder. */
public final class LanguageTest {
    private static final Path PROGRAM = Path.of("src/main/java/TempoPlayer.java");
    private static final String[] RULED_OUT = {"\\bpackage\\b", "\\bimport\\b", "->", "::", "\\bsynchronized\\b", "\\bassert\\b",
        "\\bfinally\\b", "\\bcatch\\b", "\\btry\\b", "\\binstanceof\\b", "\\bprotected\\b", "\\bvar\\b", "\\brecord\\b",
        "\\bObject\\b", "\\bDouble\\b", "\\bFloat\\b", "\\bThread\\b", "\\bequals\\b", "\\bhashCode\\b", "\\btoString\\b",
        "Exact\\(", "System\\.(?!arraycopy\\()", "Math\\.(?!max\\(|min\\()", "static \\{", "\" \\+", "\\+ \"", "%", "@",
        "(?<!final )\\bclass\\b", "static (?!final\\b)[\\w\\[\\]]+ \\w+( =|;)"};
    private static final Pattern METHOD = Pattern.compile("^ +[\\w\\[\\] ]+ (\\w+)\\(([^)]*)\\)( throws [\\w, ]+)? \\{$");

    public static void main(String[] args) throws IOException {
        String text = Files.readString(PROGRAM);
        String code = text.replaceAll("(?s)/\\*.*?\\*/", "").replaceAll("//[^\n]*", "");
        for (String ruledOut : RULED_OUT) {
            Matcher matcher = Pattern.compile(ruledOut).matcher(code);
            Check.isTrue(ruledOut + " is not used", !matcher.find());
        }
        Check.isTrue("signs are 1 to 127", text.chars().allMatch(sign -> sign >= 1 && sign <= 127));
        thrown(code);
        divisions(code);
        methods(code);
        Check.close();
    }

    private static void thrown(String code) {
        Matcher matcher = Pattern.compile("\\bthrow\\b[^;]*;").matcher(code);
        Pattern right = Pattern.compile(
            "throw new (IllegalArgument|IllegalState|IndexOutOfBounds)Exception\\(\"[^\"]*\"\\);");
        while (matcher.find()) {
            Check.isTrue(matcher.group(), right.matcher(matcher.group()).matches());
        }
    }

    /** Whole numbers are divided in one place, which looks at the divisor. */
    private static void divisions(String code) {
        Matcher matcher = Pattern.compile("[^\n]* / [^\n]*").matcher(code);
        while (matcher.find()) {
            String line = matcher.group().trim();
            boolean right = line.equals("return divisor > 0 ? value / divisor : 0;") || line.contains("MOST_INPUT / 2")
                || line.contains("/ (double) score.end") || line.contains("fraction / 2.0");
            Check.isTrue(line, right);
        }
    }

    private static void methods(String code) {
        String name = "";
        int lines = 0;
        int classes = 0;
        for (String line : code.split("\n")) {
            Matcher matcher = METHOD.matcher(line);
            if (matcher.matches() && !line.contains(" if ") && !line.contains(" while ")) {
                name = matcher.group(1);
                lines = 0;
                Check.isTrue(name + " takes at most seven", matcher.group(2).split(",").length <= 7);
            }
            lines = line.isBlank() ? 0 : lines + 1;
            Check.isTrue(name + " is short", lines <= 60);
            classes += line.contains("final class") ? 1 : 0;
        }
        Check.isTrue("at most twelve classes", classes >= 1 && classes <= 12);
    }
}
