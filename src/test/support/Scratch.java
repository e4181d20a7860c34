import java.io.IOException;
import java.nio.file.Files;
import java.nio.file.Path;
import java.util.Comparator;
import java.util.stream.Stream;

/** What the tests share that write files of their own and run commands. */
final class Scratch {
  private Scratch() {
  }

  /** How a command ended, and what it said. */
  static final class Ran {
    final int code;
    final String said;

    private Ran(int code, String said) {
      this.code = code;
      this.said = said;
    }
  }

  static Ran run(Path folder, String... command) throws IOException, InterruptedException {
    Process process = new ProcessBuilder(command).directory(folder.toFile()).redirectErrorStream(true).start();
    String said = new String(process.getInputStream().readAllBytes());
    return new Ran(process.waitFor(), said);
  }

  static void removeAll(Path folder) throws IOException {
    try (Stream<Path> files = Files.walk(folder)) {
      for (Path file : files.sorted(Comparator.reverseOrder()).toList()) Files.delete(file);
    }
  }
}
