import java.io.IOException;
import java.nio.file.Files;
import java.nio.file.Path;
import java.util.List;

/**
 * Makes the calls that are written in src/test/runs, one file a promise, and compares the answers.
 * A line 'run: ..' makes a new object; 'name(arguments) = answer' is a call with the answer that is
 * due; 'repeat n: name(arguments)' makes a call n times, that must not throw; # begins a comment.
 */
public final class RunsTest {
  private static final int PROMISES = 30;
  private static final int MOST_CALLS = 512;

  private final Caller caller = new Caller(ScanningHouse.class);
  private ScanningHouse house;
  private int calls;
  private int looked;
  private int wrong;

  public static void main(String[] args) throws Exception {
    RunsTest test = new RunsTest();
    for (int promise = 1; promise <= PROMISES; promise++) {
      test.readFile(Path.of("src/test/runs", String.format("promise-%02d.txt", promise)));
    }
    System.out.println("RunsTest: " + test.looked + " answers, " + test.wrong + " wrong");
    System.exit(test.wrong == 0 ? 0 : 1);
  }

  private void readFile(Path file) throws IOException, IllegalAccessException {
    List<String> lines = Files.readAllLines(file);
    int before = looked;
    house = null;
    for (int i = 0; i < lines.size(); i++) {
      String line = lines.get(i).replaceAll("#.*", "").trim();
      if (!line.isEmpty()) {
        readLine(file.getFileName() + ":" + (i + 1), line);
      }
    }
    if (looked == before) {
      tellWrong(file.getFileName() + " has no answers");
    }
  }

  private void readLine(String where, String line) throws IllegalAccessException {
    if (line.startsWith("run:")) {
      house = new ScanningHouse();
      calls = 0;
    } else if (line.startsWith("repeat ")) {
      int colon = line.indexOf(':');
      int times = Integer.parseInt(line.substring("repeat ".length(), colon).trim());
      for (int i = 0; i < times; i++) {
        String got = make(where, line.substring(colon + 1).trim());
        if (got.startsWith("throws.") || got.startsWith("no such")) {
          tellWrong(where + ": " + line + " answered " + got);
        }
      }
    } else {
      int equals = line.lastIndexOf('=');
      String want = line.substring(equals + 1).trim().replaceAll("^NONE$", "-1");
      String got = make(where, line.substring(0, equals).trim());
      looked++;
      if (!got.equals(want)) {
        tellWrong(where + ": " + line.substring(0, equals).trim() + " answered " + got + ", due is " + want);
      }
    }
  }

  private String make(String where, String call) throws IllegalAccessException {
    calls++;
    if (calls > MOST_CALLS) {
      tellWrong(where + ": more calls than an object is used for");
    }
    int open = call.indexOf('(');
    String inside = call.substring(open + 1, call.length() - 1).trim();
    String[] arguments = inside.isEmpty() ? new String[0] : inside.split(",");
    return caller.call(house, call.substring(0, open), arguments);
  }

  private void tellWrong(String text) {
    wrong++;
    System.out.println(text);
  }
}
