import java.io.IOException;
import java.io.UncheckedIOException;
import java.nio.file.Files;
import java.nio.file.Path;
import java.util.ArrayList;
import java.util.List;
import java.util.Map;
import java.util.TreeMap;

/**
 * The sentences of the document, by sections. A test quotes the sentence that it tests, so that
 * each test is seen to have its sentence, and each sentence that names a boundary its test.
 */
final class Document {
  private static final Path PLACE = Path.of("../shared/DOC.md");
  private static final String SUMMARY = "In short: ";

  private final Check check;
  private final Map<String, List<String>> sections = new TreeMap<>();
  private final Map<String, List<String>> quoted = new TreeMap<>();

  Document(Check check) {
    this.check = check;
    String section = "";
    for (String line : read()) {
      if (line.startsWith("## ")) {
        section = line.substring(3).replaceFirst(":.*", "");
      } else if (section.startsWith("Promise") && line.startsWith("`")) {
        add(section, line.replaceFirst("^`[^`]*`: ", SUMMARY));
      } else if (section.startsWith("Promise")) {
        add(section, line);
      } else {
        for (String sentence : line.split("(?<=\\.) (?=[A-Z])")) {
          add(section, sentence);
        }
      }
    }
  }

  private static List<String> read() {
    try {
      return Files.readAllLines(PLACE);
    } catch (IOException failed) {
      throw new UncheckedIOException(failed);
    }
  }

  private void add(String section, String sentence) {
    sections.computeIfAbsent(section, name -> new ArrayList<>()).add(sentence);
  }

  /** The same of a promise's first line, which tells in short what its call does. */
  void saysInShort(String section, String sentence) {
    says(section, SUMMARY + sentence);
  }

  /** What is checked from here on is what this sentence says. */
  void says(String section, String sentence) {
    check.about(section + ", \"" + sentence + "\"");
    check.due("stands in the document", true,
        sections.getOrDefault(section, List.of()).contains(sentence));
    quoted.computeIfAbsent(section, name -> new ArrayList<>()).add(sentence);
  }

  void dueAllQuoted() {
    check.about("the document");
    sections.forEach((section, sentences) -> {
      for (String sentence : sentences) {
        if (namesBoundary(section, sentence)) {
          check.due(section + ", \"" + sentence + "\" has a test", true,
              quoted.getOrDefault(section, List.of()).contains(sentence));
        }
      }
    });
  }

  /** All of "Terms" but its titles; what a promise returns and throws, and the ranges it takes. */
  private static boolean namesBoundary(String section, String sentence) {
    if (section.equals("Terms")) {
      return sentence.contains(" ") && !sentence.startsWith("Ahead of the calls");
    }
    return section.startsWith("Promise") && (sentence.startsWith("Returns ")
        || sentence.startsWith("Throws ") || sentence.matches("- .*(\\d|').*"));
  }
}
