import java.lang.reflect.Constructor;
import java.lang.reflect.Field;
import java.lang.reflect.Method;
import java.lang.reflect.Modifier;
import java.nio.file.Files;
import java.nio.file.Path;
import java.util.ArrayList;
import java.util.List;
import java.util.TreeSet;
import java.util.regex.Matcher;
import java.util.regex.Pattern;

/** Compares the face of the class with the code block of the document. */
public final class FaceTest {
  private static int wrong = 0;

  public static void main(String[] args) throws Exception {
    String source = Files.readString(Path.of("src/main/java/ScanningHouse.java")).replaceAll("\\s+", " ");
    List<String> face = faceOfDocument(Files.readString(Path.of("../shared/DOC.md")));
    TreeSet<String> names = new TreeSet<>();
    for (String line : face) {
      boolean isCall = line.endsWith(");") || line.contains(" throws ");
      String due = isCall ? line.replaceAll(";$", " {") : line;
      check(source.contains(due), "the class lacks: " + due);
      names.add(line.replaceAll("\\(.*| =.*", "").replaceAll(".* ", ""));
    }
    int members = 0;
    for (Method method : ScanningHouse.class.getDeclaredMethods()) {
      if (Modifier.isPrivate(method.getModifiers())) {
        check(!names.contains(method.getName()), "a private method bears a public name: " + method.getName());
      } else {
        members++;
        check(Modifier.isPublic(method.getModifiers()), "not public: " + method);
      }
    }
    for (Constructor<?> constructor : ScanningHouse.class.getDeclaredConstructors()) {
      members++;
      check(Modifier.isPublic(constructor.getModifiers()), "not public: " + constructor);
    }
    for (Field field : ScanningHouse.class.getDeclaredFields()) {
      if (!Modifier.isPrivate(field.getModifiers())) {
        members++;
        check(field.getName().equals("NONE"), "not of the face: " + field);
      }
    }
    checkHeads(Files.readString(Path.of("../shared/DOC.md")), source);
    check(face.size() == 31, "the document's face has " + face.size() + " lines");
    check(members == face.size(), "the class has " + members + " members that are not private");
    check(ScanningHouse.NONE == -1, "NONE is " + ScanningHouse.NONE);
    System.out.println("FaceTest: " + face.size() + " members, " + wrong + " wrong");
    System.exit(wrong == 0 ? 0 : 1);
  }

  private static List<String> faceOfDocument(String document) {
    List<String> face = new ArrayList<>();
    String block = document.split("```java\n")[1].split("```")[0];
    for (String line : block.split("\n")) {
      if (line.startsWith("    ")) {
        face.add(line.trim());
      }
    }
    return face;
  }

  /** The document tells what the interface says ahead of which calls; a comment of the class says it there. */
  private static void checkHeads(String document, String source) {
    Matcher told = Pattern.compile("Ahead of the calls (.*) the interface says: (.*)\\.").matcher(document);
    int heads = 0;
    while (told.find()) {
      heads++;
      String head = "// " + told.group(2);
      check(source.contains(head), "the class lacks: " + head);
      String below = source.substring(source.indexOf(head) + 1).split("// ----")[0];
      List<String> calls = new ArrayList<>();
      Matcher call = Pattern.compile("public \\w+ (\\w+)\\(").matcher(below);
      while (call.find()) {
        calls.add("`" + call.group(1) + "`");
      }
      check(String.join(", ", calls).equals(told.group(1)), "below " + head + ": " + calls);
    }
    check(heads == 5, "the document tells of " + heads + " heads");
  }

  private static void check(boolean is, String text) {
    if (!is) {
      wrong++;
      System.out.println(text);
    }
  }
}
