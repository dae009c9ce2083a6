import java.util.ArrayDeque;
import java.util.ArrayList;
import java.util.Deque;
import java.util.List;

/**
 * Makes the same long runs of calls on the class and on the Model, and compares every answer; a call
 * that throws must have changed nothing.
 */
public final class ModelTest {
  private static final int RUNS = 1500;
  private static final int CALLS = 512;
  private static final String PROOF_IS_ZERO = "-7379792620528906219";

  /** What a run is mostly about; a call named twice is made twice as often. */
  private static final List<List<String>> THEMES = List.of(
      List.of("shot", "shot", "look", "look", "next", "calibrate", "about", "words"),
      List.of("shot", "rot", "rot", "burn", "build", "build", "check", "looked", "mend", "copy", "isLost"),
      List.of("words", "words", "words", "order", "orderAnew"),
      List.of("gold", "key", "key", "key", "key", "trust", "pay", "read", "doubt", "doubt"),
      List.of("shot", "pass", "term", "died", "search", "takeDown", "whyNot", "whyNot", "burn", "build"),
      List.copyOf(Kinds.CALLS.keySet()));

  private final Caller ofClass = new Caller(ScanningHouse.class);
  private final Caller ofModel = new Caller(Model.class);
  private long seed = 1;
  private int wordRange;
  private int letterRange;
  private int pageRange;

  public static void main(String[] args) throws Exception {
    ModelTest test = new ModelTest();
    int wrong = 0;
    for (int run = 0; run < RUNS && wrong < 5; run++) {
      wrong += test.isRunAlike(run) ? 0 : 1;
    }
    System.out.println("ModelTest: " + RUNS + " runs of " + CALLS + " calls, " + wrong + " wrong");
    System.exit(wrong == 0 ? 0 : 1);
  }

  private boolean isRunAlike(int run) throws IllegalAccessException {
    seed = 1000003L * run + 7;
    List<String> theme = THEMES.get(run % THEMES.size());
    List<String> everything = List.copyOf(Kinds.CALLS.keySet());
    wordRange = 1 + draw(4);
    letterRange = 1 + draw(3);
    pageRange = 1 + draw(12);
    ScanningHouse house = new ScanningHouse();
    Model model = new Model();
    Deque<String> last = new ArrayDeque<>();
    for (int call = 0; call < CALLS; call++) {
      boolean isFirstBook = call < 2;
      String name = isFirstBook ? "book" : draw(8) == 0 ? pick(everything) : pick(theme);
      String[] arguments = argumentsOf(name);
      String want = ofModel.call(model, name, arguments);
      String before = want.startsWith("throws.") ? Innards.of(house) : "";
      String got = ofClass.call(house, name, arguments);
      last.add(name + "(" + String.join(", ", arguments) + ") = " + got);
      if (last.size() > 12) last.remove();
      if (!got.equals(want)) {
        System.out.println("run " + run + ", call " + call + ", due is " + want + ": " + last);
        return false;
      }
      if (want.startsWith("throws.") && !Innards.of(house).equals(before)) {
        System.out.println("run " + run + ", call " + call + " threw, and changed the object: " + last);
        return false;
      }
    }
    return true;
  }

  private String[] argumentsOf(String call) {
    List<String> arguments = new ArrayList<>();
    for (String kind : Kinds.CALLS.get(call)) {
      arguments.add(argument(kind));
    }
    return arguments.toArray(new String[0]);
  }

  private String argument(String kind) {
    switch (kind) {
      case "is":
        return draw(2) == 0 ? "true" : "false";
      case "image":
        return draw(4) == 0 ? PROOF_IS_ZERO : Long.toString(draw(3) == 0 ? bits() * 77777777777L : draw(64));
      case "Book":
        return Integer.toString(draw(25) == 0 ? odd(0, 5) : draw(2));
      case "Page":
        return Integer.toString(draw(25) == 0 ? odd(0, 11) : draw(pageRange));
      case "Row":
        return Integer.toString(draw(25) == 0 ? odd(0, 6) : draw(Math.min(7, pageRange + 1)));
      case "pages":
        return Integer.toString(draw(40) == 0 ? odd(1, 12) : Math.max(1, Math.min(12, pageRange + draw(2))));
      case "death":
      case "year":
        if (draw(3) == 0) return "-1";
        return Integer.toString(draw(30) == 0 ? odd(1500, 3000) : 1900 + draw(160));
      default:
        return Integer.toString(plainArgument(kind));
    }
  }

  private int plainArgument(String kind) {
    int low = Kinds.low(kind);
    int high = Kinds.high(kind);
    if (draw(40) == 0) return odd(low, high);
    if (kind.equals("word")) return draw(wordRange);
    if (kind.equals("letter")) return draw(letterRange);
    if (kind.equals("bit")) return draw(3) == 0 ? draw(64) : draw(2) * 58 + draw(6);
    if (kind.equals("years")) return draw(20) == 0 ? 1 + draw(100) : 1 + draw(4);
    if (kind.equals("strength") || kind.equals("opening")) return draw(3) == 0 ? high : low + draw(high - low + 1);
    return low + draw(high - low + 1);
  }

  /** An edge of the range, one out of it, or one far out. */
  private int odd(int low, int high) {
    int[] all = {low - 1, low, high, high + 1, -1, 0, Integer.MIN_VALUE, Integer.MAX_VALUE};
    return all[draw(all.length)];
  }

  private String pick(List<String> names) {
    return names.get(draw(names.size()));
  }

  private int draw(int bound) {
    return (int) (bits() % bound);
  }

  private long bits() {
    seed = seed * 2862933555777941757L + 3037000493L;
    return seed >>> 33;
  }
}
