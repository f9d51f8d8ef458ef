import java.io.File;
import java.io.IOException;
import java.io.InputStream;
import java.nio.charset.StandardCharsets;
import java.nio.file.Files;
import java.nio.file.Path;
import java.util.List;

/** What commands of the shell printed, what they complained of, and with which exit code they ended. */
final class Shell {
    final int exit;
    final List<String> lines;
    final String complaints;

    private Shell(int exit, List<String> lines, String complaints) {
        this.exit = exit;
        this.lines = lines;
        this.complaints = complaints;
    }

    /** Runs commands in a directory, a line each, until one of them fails. */
    static Shell run(Path directory, List<String> commands) throws IOException, InterruptedException {
        File errors = Files.createTempFile("complaints", ".txt").toFile();
        Process process = new ProcessBuilder("sh", "-e", "-c", String.join("\n", commands))
                .directory(directory.toFile()).redirectError(errors).start();
        process.getOutputStream().close();
        String printed;
        try (InputStream output = process.getInputStream()) {
            printed = new String(output.readAllBytes(), StandardCharsets.UTF_8);
        }
        int exit = process.waitFor();
        return new Shell(exit, printed.lines().toList(), Files.readString(errors.toPath()));
    }
}
