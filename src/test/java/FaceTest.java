import java.io.IOException;
import java.lang.reflect.Constructor;
import java.lang.reflect.Field;
import java.lang.reflect.Method;
import java.lang.reflect.Modifier;
import java.nio.file.Files;
import java.nio.file.Path;
import java.util.ArrayList;
import java.util.Collections;
import java.util.HashSet;
import java.util.List;
import java.util.Set;
import java.util.regex.Matcher;
import java.util.regex.Pattern;

/** The face of the document, no more and no less, and the shape of the classes inside. */
public final class FaceTest {
  private static final Check check = new Check("FaceTest");

  public static void main(String[] args) throws IOException {
    theClass();
    theMethods();
    theSections();
    theFields();
    theClassesInside();
    check.end();
  }

  private static void theClass() {
    int modifiers = BeamOffice.class.getModifiers();
    check.due("the class", "public final", Modifier.toString(modifiers));
    check.due("its package", "", BeamOffice.class.getPackageName());
    check.due("what it extends", Object.class, BeamOffice.class.getSuperclass());
    check.due("what it implements", 0, BeamOffice.class.getInterfaces().length);
    Constructor<?>[] made = BeamOffice.class.getDeclaredConstructors();
    check.due("the constructors", 1, made.length);
    check.due("the constructor", "public BeamOffice()", made[0].toString());
  }

  private static void theMethods() throws IOException {
    List<String> got = new ArrayList<>();
    Set<String> publicNames = new HashSet<>();
    Set<String> privateNames = new HashSet<>();
    for (Method method : BeamOffice.class.getDeclaredMethods()) {
      if (Modifier.isPrivate(method.getModifiers())) {
        privateNames.add(method.getName());
      } else {
        publicNames.add(method.getName());
        got.add(plain(method));
      }
    }
    List<String> want = new ArrayList<>();
    for (String method : Face.methods()) {
      want.add(method.replaceAll("(int|char|boolean) \\w+([,)])", "$1$2").replace(", ", ","));
    }
    Collections.sort(want);
    Collections.sort(got);
    check.due("the methods of the document", 23, want.size());
    check.due("the methods that are not private", want, got);
    privateNames.retainAll(publicNames);
    check.due("private ones with a public name", Set.of(), privateNames);
  }

  private static String plain(Method method) {
    return method.toString().replace("BeamOffice.", "").replace("java.lang.", "")
        .replace("java.util.", "");
  }

  /** Each call stands under the title that the document puts ahead of it. */
  private static void theSections() throws IOException {
    String source = Files.readString(Path.of("src/main/java/BeamOffice.java"));
    String document = Files.readString(Path.of("../shared/DOC.md"));
    Matcher section = Pattern.compile("Ahead of the calls (.*) the interface says: (---- .*)\\.")
        .matcher(document);
    int sections = 0;
    while (section.find()) {
      String[] parts = source.split("// " + section.group(2) + "\n", 2);
      String under = parts.length == 2 ? parts[1].split("// ----|  private ", 2)[0] : "";
      for (String call : section.group(1).replace("`", "").split(", ")) {
        check.due(call + " stands under " + section.group(2), true,
            under.contains(" " + call + "("));
      }
      sections++;
    }
    check.due("the titles", 4, sections);
  }

  private static void theFields() {
    for (Field field : BeamOffice.class.getDeclaredFields()) {
      int modifiers = field.getModifiers();
      check.due(field.getName() + " is private", true, Modifier.isPrivate(modifiers));
      if (Modifier.isStatic(modifiers)) {
        check.due(field.getName() + " is final", true, Modifier.isFinal(modifiers));
        check.due(field.getName() + " is a number", true, field.getType().isPrimitive());
      }
    }
  }

  private static void theClassesInside() {
    for (Class<?> inside : BeamOffice.class.getDeclaredClasses()) {
      String shape = Modifier.toString(inside.getModifiers());
      check.due(inside.getName(), "private static final", shape);
      check.due(inside.getName() + " has few fields", true,
          inside.getDeclaredFields().length <= 20);
    }
  }
}
