import java.io.IOException;
import java.nio.file.Files;
import java.nio.file.Path;
import java.util.ArrayList;
import java.util.List;

/**
 * Makes the calls that are written in a file of runs, and compares the answers. Its lines:
 * 'run: words' makes a new object; 'name(arguments) = answer' is a call with the answer that is due;
 * 'repeat n: name(arguments)' makes a call n times; 'each p 0..11, q 0..3: name(.., p, q)' makes it for
 * each p and q; both may have an answer behind them, due each time, and must not throw if they have
 * none; # begins a comment. A call that throws must have changed nothing in the object.
 */
final class Runs {
  private static final int MOST_CALLS = 512;

  private final Caller caller = new Caller(ScanningHouse.class);
  private ScanningHouse house;
  private int calls;

  final List<String> titles = new ArrayList<>();
  int looked;
  int wrong;

  void readFile(Path file) throws IOException, IllegalAccessException {
    List<String> lines = Files.readAllLines(file);
    int before = looked;
    house = null;
    titles.clear();
    for (int i = 0; i < lines.size(); i++) {
      String line = lines.get(i).replaceAll("#.*", "").trim();
      if (!line.isEmpty()) {
        readLine(file + ":" + (i + 1), line);
      }
    }
    if (looked == before) {
      tellWrong(file + " has no answers");
    }
  }

  void tellWrong(String text) {
    wrong++;
    System.out.println(text);
  }

  private void readLine(String where, String line) throws IllegalAccessException {
    int colon = line.indexOf(':');
    if (line.startsWith("run:")) {
      titles.add(line.substring(colon + 1).trim());
      house = new ScanningHouse();
      calls = 0;
    } else if (line.startsWith("repeat ")) {
      int times = Integer.parseInt(line.substring("repeat ".length(), colon).trim());
      for (int i = 0; i < times; i++) {
        readCall(where, line.substring(colon + 1).trim(), false);
      }
    } else if (line.startsWith("each ")) {
      readEach(where, line.substring("each ".length(), colon).split(","), 0, line.substring(colon + 1).trim());
    } else {
      readCall(where, line, true);
    }
  }

  private void readEach(String where, String[] ranges, int at, String call) throws IllegalAccessException {
    if (at == ranges.length) {
      readCall(where, call, false);
      return;
    }
    String[] words = ranges[at].trim().split(" |\\.\\.");
    for (int value = Integer.parseInt(words[1]); value <= Integer.parseInt(words[2]); value++) {
      readEach(where, ranges, at + 1, call.replaceAll("\\b" + words[0] + "\\b", Integer.toString(value)));
    }
  }

  private void readCall(String where, String line, boolean needsAnswer) throws IllegalAccessException {
    int equals = line.lastIndexOf('=');
    String call = (equals < 0 ? line : line.substring(0, equals)).trim();
    String got = make(where, call);
    if (equals >= 0) {
      looked++;
      String want = line.substring(equals + 1).trim().replaceAll("^NONE$", "-1");
      if (!got.equals(want)) {
        tellWrong(where + ": " + call + " answered " + got + ", due is " + want);
      }
    } else if (needsAnswer || got.startsWith("throws.") || got.startsWith("no such")) {
      tellWrong(where + ": " + call + " answered " + got);
    }
  }

  private String make(String where, String call) throws IllegalAccessException {
    calls++;
    if (calls > MOST_CALLS) {
      tellWrong(where + ": more calls than an object is used for");
    }
    int open = call.indexOf('(');
    String inside = call.substring(open + 1, call.length() - 1).trim();
    String[] arguments = inside.isEmpty() ? new String[0] : inside.split(",");
    String before = Innards.of(house);
    String got = caller.call(house, call.substring(0, open), arguments);
    if (got.startsWith("throws.") && !Innards.of(house).equals(before)) {
      tellWrong(where + ": " + call + " threw, and changed the object");
    }
    return got;
  }
}
