import java.io.IOException;
import java.nio.file.Files;
import java.nio.file.Path;
import java.util.ArrayList;
import java.util.List;
import java.util.Set;
import java.util.regex.Matcher;
import java.util.regex.Pattern;

/** Those rules of LANGUAGE.md that can be read off the source's words. */
public final class LanguageTest {
  private static final Path SOURCE = Path.of("src/main/java/BeamOffice.java");
  private static final int MOST_LINES = 60;
  private static final int MOST_PARAMETERS = 7;

  private static final Set<String> IMPORTS =
      Set.of("java.util.ArrayList", "java.util.NoSuchElementException");
  private static final Set<String> EXCEPTIONS = Set.of("IllegalStateException",
      "IllegalArgumentException", "IndexOutOfBoundsException", "ArithmeticException",
      "UnsupportedOperationException", "NoSuchElementException");
  private static final String[] NOT_IN_IT = {"package", "try", "catch", "finally", "synchronized",
    "assert", "native", "volatile", "transient", "record", "Object", "equals", "hashCode",
    "toString", "System", "Thread", "Random", "Runtime", "Class", "Exact"};

  private static final Check check = new Check("LanguageTest");

  public static void main(String[] args) throws IOException {
    String whole = Files.readString(SOURCE);
    String code = withoutComments(whole);
    check.due("comments and texts hold plain signs", true, whole.matches("[\\n -~]*"));
    words(code);
    imports(code);
    exceptions(code);
    methods(code);
    check.end();
  }

  private static String withoutComments(String text) {
    return text.replaceAll("(?s)/\\*.*?\\*/", "").replaceAll("//[^\\n]*", "")
        .replaceAll("\"[^\"\\n]*\"", "\"\"");
  }

  private static List<String> found(String pattern, String text) {
    List<String> all = new ArrayList<>();
    Matcher matcher = Pattern.compile(pattern).matcher(text);
    while (matcher.find()) {
      all.add(matcher.group(1));
    }
    return all;
  }

  private static void words(String code) {
    for (String word : NOT_IN_IT) {
      check.due("the word " + word, List.of(), found("\\b(" + word + ")\\b", code));
    }
    check.due("lambdas and method references", List.of(), found("(->|::)", code));
    check.due("Exact functions", List.of(), found("(\\w+Exact)\\b", code));
    check.due("texts joined by +", List.of(), found("(\"\\s*\\+|\\+\\s*\")", code));
    check.due("for over a list", List.of(), found("(for \\([A-Z]\\w* \\w+ :)", code));
  }

  private static void imports(String code) {
    for (String name : found("import ([\\w.*]+);", code)) {
      check.due("the import of " + name, true, IMPORTS.contains(name));
    }
  }

  private static void exceptions(String code) {
    for (String name : found("throw new (\\w+)", code)) {
      check.due("throw new " + name, true, EXCEPTIONS.contains(name));
    }
    int all = found("\\b(throw)\\b", code).size();
    check.due("each throw makes its own with a text", all,
        found("(throw new \\w+\\(\"\"\\);)", code).size());
  }

  private static void methods(String code) {
    String[] lines = code.split("\\n", -1);
    for (int i = 0; i < lines.length; i++) {
      String head = lines[i];
      if (!head.matches(" {2}( {2})?\\w.*\\).*\\{|\\s+throws .*\\{")) {
        continue;
      }
      String end = head.replaceFirst("\\S.*", "").replaceFirst("^ {6,10}$", "  ") + "}";
      int last = i;
      while (last < lines.length && !lines[last].equals(end)) {
        last++;
      }
      check.due("the end of line " + (i + 1) + " is found", true, last < lines.length);
      check.due("short: line " + (i + 1), true, last - i <= MOST_LINES);
      check.due("few parameters: line " + (i + 1), true,
          head.split(",").length <= MOST_PARAMETERS);
    }
  }
}
