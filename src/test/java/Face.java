import java.io.IOException;
import java.nio.file.Files;
import java.nio.file.Path;
import java.util.ArrayList;
import java.util.List;

/** The lines of the section "The public face" that declare a method, as the document writes them. */
final class Face {
  private static final Path PLACE = Path.of("../shared/DOC.md");

  private Face() {
  }

  static List<String> methods() throws IOException {
    List<String> all = new ArrayList<>();
    for (String line : Files.readAllLines(PLACE)) {
      if (line.matches("    public \\w+ \\w+\\(.*\\).*;")) {
        all.add(line.strip().replace(";", ""));
      }
    }
    return all;
  }
}
