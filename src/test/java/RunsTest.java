import java.nio.file.Path;

/** Makes the calls that are written in src/test/runs, one file a promise, and compares the answers. */
public final class RunsTest {
  private static final int PROMISES = 30;

  public static void main(String[] args) throws Exception {
    Runs runs = new Runs();
    for (int promise = 1; promise <= PROMISES; promise++) {
      runs.readFile(Path.of("src/test/runs", String.format("promise-%02d.txt", promise)));
    }
    System.out.println("RunsTest: " + runs.looked + " answers, " + runs.wrong + " wrong");
    System.exit(runs.wrong == 0 ? 0 : 1);
  }
}
