import java.io.IOException;
import java.nio.file.Files;
import java.nio.file.Path;
import java.util.Comparator;
import java.util.List;
import java.util.stream.Stream;

/** A command that runs in a folder; its output goes to a file beside the folder, so that no pipe fills up. */
final class Shell {
    private final Process process;
    private final Path output;

    Shell(Path folder, String command) throws IOException {
        output = folder.resolveSibling(folder.getFileName() + ".output");
        process = new ProcessBuilder("bash", "-c", command).directory(folder.toFile())
            .redirectErrorStream(true).redirectOutput(output.toFile()).start();
    }

    int exitCode() throws InterruptedException {
        return process.waitFor();
    }

    /** What it printed, once it has ended. */
    String output() throws IOException {
        return Files.readString(output);
    }

    static void write(Path file, String text) throws IOException {
        Files.createDirectories(file.getParent());
        Files.writeString(file, text);
    }

    static void delete(Path folder) throws IOException {
        List<Path> inside;
        try (Stream<Path> walk = Files.walk(folder)) {
            inside = walk.sorted(Comparator.reverseOrder()).toList();
        }
        for (Path path : inside) {
            Files.delete(path);
        }
    }
}
