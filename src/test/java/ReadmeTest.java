import java.io.IOException;
import java.lang.reflect.Method;
import java.lang.reflect.Modifier;
import java.nio.file.Files;
import java.nio.file.Path;
import java.nio.file.StandardCopyOption;
import java.util.ArrayList;
import java.util.List;
import java.util.Set;
import java.util.TreeSet;
import java.util.regex.Matcher;
import java.util.regex.Pattern;
import java.util.stream.Stream;

/** Tries what README.md says: its commands, its program, its written runs, and what its tables name. */
public final class ReadmeTest {
  private static final Path README = Path.of("README.md");
  private static final Path ROOM = Path.of("build", "readme");
  private static final String SOURCE = "src/main/java/ScanningHouse.java";
  private static final String ALL_TESTS = ".ci/run";

  private int looked;
  private int wrong;

  public static void main(String[] args) throws Exception {
    ReadmeTest test = new ReadmeTest();
    String page = Files.readString(README);
    test.tryProgram(page);
    test.tryTestCommands(page);
    test.tryRuns(page);
    test.compareTables(page);
    System.out.println("ReadmeTest: " + test.looked + " looked at, " + test.wrong + " wrong");
    System.exit(test.wrong == 0 ? 0 : 1);
  }

  private void check(boolean is, String text) {
    looked++;
    if (!is) {
      wrong++;
      System.out.println("README.md: " + text);
    }
  }

  /** Puts the program and the class into a folder of their own, and runs the page's commands there. */
  private void tryProgram(String page) throws IOException, InterruptedException {
    String program = blocks(partOf(page, "How to use the class"), "java").get(0);
    Files.createDirectories(ROOM.resolve(SOURCE).getParent());
    Files.copy(Path.of(SOURCE), ROOM.resolve(SOURCE), StandardCopyOption.REPLACE_EXISTING);
    Files.writeString(ROOM.resolve("Mine.java"), program);
    List<String> said = new ArrayList<>();
    for (String command : commands(page, "How to use the class")) {
      said = run(ROOM, command);
    }
    List<String> due = new ArrayList<>();
    Matcher row = Pattern.compile("System\\.out\\.println\\(.*\\); +// ([^:]+):").matcher(program);
    while (row.find()) {
      due.add(row.group(1));
    }
    check(due.size() == program.split("println", -1).length - 1, "a call of its program has no answer behind it");
    check(said.equals(due), "its program says " + said + ", due is " + due);
  }

  /** The command that runs all tests runs this one, so it is only looked at here. */
  private void tryTestCommands(String page) throws IOException, InterruptedException {
    List<String> commands = commands(page, "How to run its tests");
    check(commands.remove(ALL_TESTS), "it does not say how to run all tests");
    check(Files.isExecutable(Path.of(ALL_TESTS)), ALL_TESTS + " cannot be run");
    for (String command : commands) {
      run(Path.of("."), command);
    }
  }

  private List<String> run(Path folder, String command) throws IOException, InterruptedException {
    Process process = new ProcessBuilder(command.split(" ")).directory(folder.toFile())
        .redirectErrorStream(true).start();
    List<String> said = new ArrayList<>(process.inputReader().lines().toList());
    check(process.waitFor() == 0, command + " fails: " + said);
    return said;
  }

  private void tryRuns(String page) throws IOException, IllegalAccessException {
    Path file = ROOM.resolve("runs.txt");
    Files.writeString(file, blocks(partOf(page, "How to run its tests"), "").get(0));
    Runs runs = new Runs();
    runs.readFile(file);
    check(runs.wrong == 0 && runs.looked > 0, "its runs do not hold");
  }

  private void compareTables(String page) throws IOException {
    Set<String> calls = new TreeSet<>();
    for (Method method : ScanningHouse.class.getDeclaredMethods()) {
      if (Modifier.isPublic(method.getModifiers())) {
        calls.add(method.getName());
      }
    }
    check(calls.equals(namesInTable(partOf(page, "How to use the class"), 2)), "its table of calls");
    Set<String> tests = new TreeSet<>();
    try (Stream<Path> files = Files.list(Path.of("src/test/java"))) {
      files.map(file -> file.getFileName().toString()).filter(name -> name.endsWith("Test.java"))
          .forEach(name -> tests.add(name.replace(".java", "")));
    }
    check(tests.equals(namesInTable(partOf(page, "How to run its tests"), 1)), "its table of tests");
    Matcher place = Pattern.compile("`((?:\\.\\./shared|src|\\.ci)/?[^`]*)`").matcher(page);
    while (place.find()) {
      check(Files.exists(Path.of(place.group(1))), "there is no " + place.group(1));
    }
  }

  // ---- reading the page

  private static String partOf(String page, String head) {
    String[] parts = page.split("\n## " + Pattern.quote(head) + "\n");
    return parts.length < 2 ? "" : parts[1].split("\n## ")[0];
  }

  private static List<String> blocks(String part, String language) {
    List<String> found = new ArrayList<>();
    Matcher block = Pattern.compile("```(\\w*)\n(.*?)```", Pattern.DOTALL).matcher(part);
    while (block.find()) {
      if (block.group(1).equals(language)) {
        found.add(block.group(2));
      }
    }
    return found;
  }

  private static List<String> commands(String page, String head) {
    List<String> found = new ArrayList<>();
    for (String block : blocks(partOf(page, head), "sh")) {
      found.addAll(block.lines().toList());
    }
    return found;
  }

  private static Set<String> namesInTable(String part, int column) {
    Set<String> names = new TreeSet<>();
    for (String line : part.split("\n")) {
      if (line.startsWith("|")) {
        Matcher name = Pattern.compile("`(\\w+)`").matcher(line.split("\\|")[column]);
        while (name.find()) {
          names.add(name.group(1));
        }
      }
    }
    return names;
  }
}
