import java.io.IOException;
import java.nio.file.Files;
import java.nio.file.Path;
import java.nio.file.StandardCopyOption;

/** .ci/run does what README.md says; it is tried on small projects, and run in the project's folder. */
public final class CiTest {
    private static final String PROGRAM = "src/main/java/TempoPlayer.java";
    private static final String NOT_JAVA = "public final class";

    private final String name;
    private final Path project;
    private final Path shared;
    private Shell shell;
    private boolean passes;
    private String[] printed;

    private CiTest(Path folder, String name) throws IOException {
        this.name = name;
        this.project = Files.createDirectories(folder.resolve(name).resolve("project"));
        this.shared = Files.createDirectories(folder.resolve(name).resolve("shared/tests"));
        Files.createDirectories(project.resolve(".ci"));
        Files.copy(Path.of(".ci/run"), project.resolve(".ci/run"), StandardCopyOption.COPY_ATTRIBUTES);
        Shell.write(project.resolve(PROGRAM), "public final class TempoPlayer {\n    public static final int NONE = -1;\n}\n");
        Shell.write(project.resolve("src/test/java/Helper.java"), "final class Helper {\n}\n");
    }

    /** What a test prints tells that it ran, and with which program. */
    private static String test(String test, int exitCode) {
        return "public final class " + test + " {\n    public static void main(String[] args) {\n"
            + "        System.out.println(\"" + test + " ran \" + TempoPlayer.NONE);\n"
            + "        System.exit(" + exitCode + ");\n    }\n}\n";
    }

    private CiTest own(String test, int exitCode) throws IOException {
        return ownText(test, test(test, exitCode));
    }

    private CiTest ownText(String test, String text) throws IOException {
        Shell.write(project.resolve("src/test/java/" + test + ".java"), text);
        return this;
    }

    private CiTest shared(String test, int exitCode) throws IOException {
        return sharedText(test, test(test, exitCode));
    }

    private CiTest sharedText(String test, String text) throws IOException {
        Shell.write(shared.resolve(test + ".java"), text);
        return this;
    }

    private CiTest passes(boolean due, String... lines) throws IOException {
        passes = due;
        printed = lines;
        shell = new Shell(project, ".ci/run");
        return this;
    }

    private void look() throws IOException, InterruptedException {
        int exitCode = shell.exitCode();
        Check.isTrue(name + ": .ci/run ends with 0 if it should pass, else not; it ended with " + exitCode,
            passes == (exitCode == 0));
        String output = "\n" + shell.output();
        for (String line : printed) {
            Check.isTrue(name + ": " + line + " is printed in" + output, output.contains("\n" + line + "\n"));
        }
    }

    public static void main(String[] args) throws IOException, InterruptedException {
        Path folder = Files.createTempDirectory("ci");
        CiTest missing = new CiTest(folder, "no-shared-folder").own("ATest", 0);
        Shell.delete(missing.shared.getParent());
        CiTest wrongProgram = new CiTest(folder, "program-not-compiled").own("ATest", 0).shared("Runs", 0);
        Shell.write(wrongProgram.project.resolve(PROGRAM), NOT_JAVA);
        CiTest[] projects = {
            new CiTest(folder, "all-pass").own("ATest", 0).own("BTest", 0).shared("Runs", 0).shared("MoreRuns", 0)
                .passes(true, "ATest ran -1", "BTest ran -1", "Runs ran -1", "MoreRuns ran -1", "4 passed, 0 failed"),
            new CiTest(folder, "own-test-fails").own("ATest", 1).own("BTest", 0).shared("Runs", 0)
                .passes(false, "FAILED: ATest", "BTest ran -1", "Runs ran -1", "2 passed, 1 failed"),
            new CiTest(folder, "shared-test-fails").own("ATest", 0).shared("Runs", 1).shared("MoreRuns", 0)
                .passes(false, "FAILED: Runs", "ATest ran -1", "MoreRuns ran -1", "2 passed, 1 failed"),
            new CiTest(folder, "own-test-not-compiled").own("ATest", 0).ownText("BTest", NOT_JAVA).shared("Runs", 0)
                .passes(false, "FAILED: the program with its tests is not compiled", "Runs ran -1", "1 passed, 1 failed"),
            new CiTest(folder, "shared-test-not-compiled").own("ATest", 0).sharedText("Runs", NOT_JAVA)
                .passes(false, "FAILED: ../shared/tests/Runs.java is not compiled", "ATest ran -1", "1 passed, 1 failed"),
            missing.passes(false, "FAILED: ../shared/tests is not there", "ATest ran -1", "1 passed, 1 failed"),
            wrongProgram.passes(false, "0 passed, 2 failed")};
        for (CiTest project : projects) {
            project.look();
        }
        Shell.delete(folder);
        Check.close();
    }
}
