import java.io.IOException;
import java.net.URL;
import java.net.URLClassLoader;
import java.nio.file.Files;
import java.nio.file.Path;
import java.util.Map;
import java.util.regex.Matcher;
import java.util.regex.Pattern;
import javax.tools.ToolProvider;

/** README.md: its example answers what it says, and its table has each call of the face. */
public final class ReadmeTest {
  private static final Check check = new Check("ReadmeTest");

  public static void main(String[] args) throws Exception {
    String page = Files.readString(Path.of("README.md"));
    theExample(page);
    theTable(page);
    check.end();
  }

  private static void theExample(String page) throws Exception {
    Matcher block = Pattern.compile("(?s)```java\\n(.*?)```").matcher(page);
    check.due("there is an example", true, block.find());
    Map<?, ?> answers = answersOf(block.group(1));
    Matcher line = Pattern.compile("(?m)^\\w+ (\\w+) = .*; +// (\\S+): ").matcher(block.group(1));
    int told = 0;
    while (line.find()) {
      check.due(line.group(1), line.group(2), answers.get(line.group(1)));
      told++;
    }
    // the first line makes the object and answers nothing
    check.due("the lines that tell their answers", block.group(1).split("\\n").length - 1, told);
  }

  /** Runs the example as a program of its own, and returns what its variables hold. */
  private static Map<?, ?> answersOf(String example) throws Exception {
    StringBuilder program = new StringBuilder("public final class Example {\n"
        + "public static java.util.Map<String, String> answers() {\n"
        + "java.util.Map<String, String> all = new java.util.HashMap<>();\n" + example);
    Matcher name = Pattern.compile("(?m)^\\w+ (\\w+) = ").matcher(example);
    while (name.find()) {
      program.append("all.put(\"" + name.group(1) + "\", \"\" + " + name.group(1) + ");\n");
    }
    Path folder = Files.createTempDirectory("example");
    Path source = folder.resolve("Example.java");
    Path compiled = folder.resolve("Example.class");
    try {
      Files.writeString(source, program.append("return all;\n}\n}\n").toString());
      int result = ToolProvider.getSystemJavaCompiler().run(null, null, null, "-cp",
          System.getProperty("java.class.path"), "-d", folder.toString(), source.toString());
      check.due("the example compiles", 0, result);
      try (URLClassLoader loader = new URLClassLoader(new URL[] {folder.toUri().toURL()})) {
        return (Map<?, ?>) loader.loadClass("Example").getMethod("answers").invoke(null);
      }
    } finally {
      Files.deleteIfExists(source);
      Files.deleteIfExists(compiled);
      Files.delete(folder);
    }
  }

  private static void theTable(String page) throws IOException {
    for (String method : Face.methods()) {
      String call = method.replaceFirst(" throws .*", "").replaceFirst("public \\w+ ", "")
          .replaceAll("(int|char|boolean) ", "");
      Matcher row = Pattern.compile("(?m)^\\| `" + Pattern.quote(call) + "` \\|.*\\|(.*)\\|$")
          .matcher(page);
      String thrown = row.find()
          ? row.group(1).replaceAll("[^`]*`(\\w+)`[^`]*", "$1Exception ").strip() : "no row";
      check.due("what the row of " + call + " throws", thrownBy(method), thrown);
    }
  }

  private static String thrownBy(String method) {
    return method.contains(" throws ")
        ? method.replaceFirst(".* throws ", "").replace(",", "") : "";
  }
}
