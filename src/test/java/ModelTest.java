import java.util.ArrayDeque;
import java.util.ArrayList;
import java.util.Deque;
import java.util.List;
import java.util.Map;
import java.util.TreeMap;

/** Makes the same long runs of calls on the class and on the Model, and compares every answer. */
public final class ModelTest {
  private static final int RUNS = 1500;
  private static final int CALLS = 512;
  private static final String PROOF_IS_ZERO = "-7379792620528906219";

  /** What may stand for an argument: its name in CALLS_OF, its range, and how often it is out of it. */
  private static final Map<String, int[]> RANGES = Map.ofEntries(
      Map.entry("pages", new int[] {1, 12}), Map.entry("opening", new int[] {60, 180}),
      Map.entry("strength", new int[] {1, 60}), Map.entry("wish", new int[] {0, 9}),
      Map.entry("death", new int[] {1500, 3000}), Map.entry("angle", new int[] {30, 180}),
      Map.entry("bit", new int[] {0, 63}), Map.entry("word", new int[] {0, 99}),
      Map.entry("letter", new int[] {0, 25}), Map.entry("years", new int[] {1, 100}),
      Map.entry("term", new int[] {0, 120}), Map.entry("what", new int[] {0, 5}),
      Map.entry("vault", new int[] {0, 3}), Map.entry("place", new int[] {0, 3}),
      Map.entry("keyer", new int[] {0, 4}), Map.entry("land", new int[] {0, 3}));

  private static final Map<String, List<String>> CALLS_OF = new TreeMap<>(Map.ofEntries(
      Map.entry("book", List.of("pages", "opening", "strength", "wish", "death")),
      Map.entry("next", List.of()), Map.entry("shot", List.of("book", "page", "angle", "image")),
      Map.entry("look", List.of("book", "page")), Map.entry("calibrate", List.of()),
      Map.entry("rot", List.of("vault", "book", "page", "bit")), Map.entry("burn", List.of("vault")),
      Map.entry("build", List.of("vault")), Map.entry("check", List.of("vault", "book")),
      Map.entry("looked", List.of()), Map.entry("mend", List.of("vault", "book")),
      Map.entry("copy", List.of("vault", "book", "page")), Map.entry("isLost", List.of("book", "page")),
      Map.entry("words", List.of("book", "page", "word", "word")),
      Map.entry("order", List.of("book", "row")), Map.entry("orderAnew", List.of("book", "row")),
      Map.entry("gold", List.of("book", "page", "place", "letter")),
      Map.entry("key", List.of("keyer", "book", "page", "place", "letter")),
      Map.entry("trust", List.of("keyer")), Map.entry("pay", List.of("keyer")),
      Map.entry("read", List.of("book", "page", "place")), Map.entry("doubt", List.of("book", "page", "place")),
      Map.entry("pass", List.of("years")), Map.entry("term", List.of("land", "term")),
      Map.entry("died", List.of("book", "death")), Map.entry("search", List.of("book")),
      Map.entry("takeDown", List.of("book", "flag")), Map.entry("whyNot", List.of("book", "page", "land")),
      Map.entry("about", List.of("book", "what"))));

  /** What a run is mostly about; a call named twice is made twice as often. */
  private static final List<List<String>> THEMES = List.of(
      List.of("shot", "shot", "look", "look", "next", "calibrate", "about", "words"),
      List.of("shot", "rot", "rot", "burn", "build", "build", "check", "looked", "mend", "copy", "isLost"),
      List.of("words", "words", "words", "order", "orderAnew"),
      List.of("gold", "key", "key", "key", "key", "trust", "pay", "read", "doubt", "doubt"),
      List.of("shot", "pass", "term", "died", "search", "takeDown", "whyNot", "whyNot", "burn", "build"),
      List.copyOf(CALLS_OF.keySet()));

  private final Caller ofClass = new Caller(ScanningHouse.class);
  private final Caller ofModel = new Caller(Model.class);
  private long seed = 1;
  private int wordRange;
  private int letterRange;
  private int pageRange;

  public static void main(String[] args) throws Exception {
    ModelTest test = new ModelTest();
    int wrong = 0;
    for (int run = 0; run < RUNS && wrong < 5; run++) {
      wrong += test.isRunAlike(run) ? 0 : 1;
    }
    System.out.println("ModelTest: " + RUNS + " runs of " + CALLS + " calls, " + wrong + " wrong");
    System.exit(wrong == 0 ? 0 : 1);
  }

  private boolean isRunAlike(int run) throws IllegalAccessException {
    seed = 1000003L * run + 7;
    List<String> theme = THEMES.get(run % THEMES.size());
    List<String> everything = List.copyOf(CALLS_OF.keySet());
    wordRange = 1 + draw(4);
    letterRange = 1 + draw(3);
    pageRange = 1 + draw(12);
    ScanningHouse house = new ScanningHouse();
    Model model = new Model();
    Deque<String> last = new ArrayDeque<>();
    for (int call = 0; call < CALLS; call++) {
      boolean isFirstBook = call < 2;
      String name = isFirstBook ? "book" : draw(8) == 0 ? pick(everything) : pick(theme);
      String[] arguments = argumentsOf(name);
      String got = ofClass.call(house, name, arguments);
      String want = ofModel.call(model, name, arguments);
      last.add(name + "(" + String.join(", ", arguments) + ") = " + got);
      if (last.size() > 12) last.remove();
      if (!got.equals(want)) {
        System.out.println("run " + run + ", call " + call + ", due is " + want + ": " + last);
        return false;
      }
    }
    return true;
  }

  private String[] argumentsOf(String call) {
    List<String> arguments = new ArrayList<>();
    for (String kind : CALLS_OF.get(call)) {
      arguments.add(argument(call, kind));
    }
    return arguments.toArray(new String[0]);
  }

  private String argument(String call, String kind) {
    switch (kind) {
      case "flag":
        return draw(2) == 0 ? "true" : "false";
      case "image":
        return draw(4) == 0 ? PROOF_IS_ZERO : Long.toString(draw(3) == 0 ? bits() * 77777777777L : draw(64));
      case "book":
        return Integer.toString(draw(25) == 0 ? odd(0, 5) : draw(2));
      case "page":
        return Integer.toString(draw(25) == 0 ? odd(0, 11) : draw(pageRange));
      case "row":
        return Integer.toString(draw(25) == 0 ? odd(0, 6) : draw(Math.min(7, pageRange + 1)));
      case "pages":
        return Integer.toString(draw(40) == 0 ? odd(1, 12) : Math.max(1, Math.min(12, pageRange + draw(2))));
      case "death":
        if (draw(3) == 0) return "-1";
        return Integer.toString(draw(30) == 0 ? odd(1500, 3000) : 1900 + draw(160));
      default:
        return Integer.toString(plainArgument(kind));
    }
  }

  private int plainArgument(String kind) {
    int low = RANGES.get(kind)[0];
    int high = RANGES.get(kind)[1];
    if (draw(40) == 0) return odd(low, high);
    if (kind.equals("word")) return draw(wordRange);
    if (kind.equals("letter")) return draw(letterRange);
    if (kind.equals("bit")) return draw(3) == 0 ? draw(64) : draw(6);
    if (kind.equals("years")) return draw(20) == 0 ? 1 + draw(100) : 1 + draw(4);
    if (kind.equals("strength") || kind.equals("opening")) return draw(3) == 0 ? high : low + draw(high - low + 1);
    return low + draw(high - low + 1);
  }

  /** An edge of the range, one out of it, or one far out. */
  private int odd(int low, int high) {
    int[] all = {low - 1, low, high, high + 1, -1, 0, Integer.MIN_VALUE, Integer.MAX_VALUE};
    return all[draw(all.length)];
  }

  private String pick(List<String> names) {
    return names.get(draw(names.size()));
  }

  private int draw(int bound) {
    return (int) (bits() % bound);
  }

  private long bits() {
    seed = seed * 2862933555777941757L + 3037000493L;
    return seed >>> 33;
  }
}
