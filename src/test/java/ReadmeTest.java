import java.io.IOException;
import java.nio.file.Files;
import java.nio.file.Path;
import java.util.ArrayList;
import java.util.List;
import java.util.Set;
import java.util.TreeSet;
import java.util.regex.Matcher;
import java.util.regex.Pattern;
import java.util.stream.Stream;

/** README.md: what it shows works as it stands there; it is run in the project's folder. */
public final class ReadmeTest {
    private static final Pattern BLOCK = Pattern.compile("(?m)^```(\\w+)\n((?s).*?)^```$");
    private static final Pattern PUBLIC_CLASS = Pattern.compile("public (?:final )?class (\\w+)");
    /** It runs this very test. */
    private static final String ALL_TESTS = "bash .ci/run";

    private final String text;
    private final Path project;

    private ReadmeTest(String text, Path project) {
        this.text = text;
        this.project = project;
    }

    public static void main(String[] args) throws IOException, InterruptedException {
        String text = Files.readString(Path.of("README.md"));
        Path folder = Files.createTempDirectory("readme");
        Path project = Files.createDirectories(folder.resolve("project"));
        Files.createSymbolicLink(project.resolve("src"), Path.of("src").toRealPath());
        Files.createSymbolicLink(project.resolve(".ci"), Path.of(".ci").toRealPath());
        Files.createSymbolicLink(folder.resolve("shared"), Path.of("../shared").toRealPath());
        new ReadmeTest(text, project).blocks();
        Shell.delete(folder);
        callsOfTheFace(text);
        table(text);
        Check.close();
    }

    /** In the order of the page: Java is written to its file, commands are run, a text is what the last command prints. */
    private void blocks() throws IOException, InterruptedException {
        Set<String> kinds = new TreeSet<>();
        String printed = "";
        Matcher block = BLOCK.matcher(text);
        while (block.find()) {
            kinds.add(block.group(1));
            switch (block.group(1)) {
                case "java" -> writeClass(block.group(2));
                case "sh" -> printed = run(block.group(2));
                case "text" -> Check.sameText("what README.md's command prints", block.group(2), printed);
                default -> Check.complain("README.md has a block of the kind " + block.group(1));
            }
        }
        Check.sameText("the kinds of blocks", "[java, sh, text]", kinds.toString());
    }

    private void writeClass(String source) throws IOException {
        Matcher name = PUBLIC_CLASS.matcher(source);
        Check.isTrue("README.md's Java is a whole class", name.find());
        Shell.write(project.resolve(name.group(1) + ".java"), source);
    }

    private String run(String commands) throws IOException, InterruptedException {
        String printed = "";
        for (String command : commands.split("\n")) {
            if (command.equals(ALL_TESTS)) {
                Check.isTrue(".ci/run can be run", Files.isExecutable(project.resolve(".ci/run")));
                continue;
            }
            Shell shell = new Shell(project, command);
            int exitCode = shell.exitCode();
            printed = shell.output();
            Check.sameText("README.md's command " + command, "ends with 0", "ends with " + exitCode);
            if (exitCode != 0) {
                System.out.println(printed);
            }
        }
        return printed;
    }

    private static void callsOfTheFace(String text) {
        Check.isTrue("README.md tells how to run the tests", text.contains("\n" + ALL_TESTS + "\n"));
        for (String call : Calls.NAMES) {
            Check.isTrue("README.md shows the call " + call, text.contains("player." + call + "("));
        }
    }

    /** It names each test that there is, and no other. */
    private static void table(String text) throws IOException {
        List<String> named = new ArrayList<>();
        Matcher row = Pattern.compile("(?m)^\\| `(\\w+)` \\|").matcher(text);
        while (row.find()) {
            named.add(row.group(1));
        }
        Set<String> there = new TreeSet<>();
        try (Stream<Path> files = Files.list(Path.of("src/test/java"))) {
            files.map(file -> file.getFileName().toString()).filter(name -> name.endsWith("Test.java"))
                .forEach(name -> there.add(name.substring(0, name.length() - ".java".length())));
        }
        Check.same("rows of the table", there.size(), named.size());
        Check.sameText("the tests of the table", there.toString(), new TreeSet<>(named).toString());
    }
}
