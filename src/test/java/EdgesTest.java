import java.util.ArrayList;
import java.util.Arrays;
import java.util.List;
import java.util.Map;

/**
 * Makes every call with every row of arguments from the ends of their ranges, those beside them and
 * those far away, in houses with nothing, with little and with all there may be in them. A call throws
 * IndexOutOfBoundsException, if there is no such thing; otherwise IllegalArgumentException, if another
 * argument is out of its range; otherwise it answers as the Model does. If it throws, all that the
 * house holds must be as before.
 */
public final class EdgesTest {
  private static final int MOST_TOLD = 20;
  private static final String LEAST = Integer.toString(Integer.MIN_VALUE);
  private static final String GREATEST = Integer.toString(Integer.MAX_VALUE);

  /** Arguments within a range at which something else begins, beside its ends. */
  private static final Map<String, List<String>> MORE = Map.of(
      "angle", List.of("60", "61", "90", "91"), "death", List.of("-1", "0"), "year", List.of("-1", "0"),
      "what", List.of("1", "2", "3", "4"));

  /** The books of a house, by how many pages they have, and the calls that were made in it. */
  private record House(int[] pages, List<String> calls) {}

  private final Caller ofClass = new Caller(ScanningHouse.class);
  private final Caller ofModel = new Caller(Model.class);
  private int made;
  private int wrong;

  private ScanningHouse house;
  private Model model;
  private String innards;

  public static void main(String[] args) throws Exception {
    EdgesTest test = new EdgesTest();
    for (House each : List.of(emptyHouse(), smallHouse(), usedHouse(), fullHouse(), burntHouse())) {
      test.makeAll(each);
    }
    System.out.println("EdgesTest: " + test.made + " calls, " + test.wrong + " wrong");
    System.exit(test.wrong == 0 && test.made > 0 ? 0 : 1);
  }

  // ---- the houses

  private static House emptyHouse() {
    return new House(new int[0], List.of());
  }

  private static House smallHouse() {
    return new House(new int[] {1}, List.of("book 1 60 1 0 -1"));
  }

  /** Strength used up in one book, 1 of it left in another; sharp, blurred and faulty shots; gold and keys. */
  private static House usedHouse() {
    List<String> calls = new ArrayList<>(List.of("book 7 60 6 9 -1", "book 12 180 8 9 1930", "book 8 90 1 3 -1"));
    for (int page = 0; page < 6; page++) {
      calls.add("shot 0 " + page + " 30 " + page);
    }
    for (int page : new int[] {0, 1, 11}) {
      calls.add("shot 1 " + page + " 91 " + page);
    }
    calls.addAll(List.of("look 1 0", "look 0 5", "burn 3", "shot 1 7 30 77", "rot 0 1 0 63", "rot 0 0 0 0",
        "check 0 1", "gold 0 0 0 0", "gold 1 11 3 25", "key 0 0 0 0 0", "key 0 0 6 3 25", "key 4 1 11 3 0",
        "search 0", "takeDown 2 true", "term 0 0", "words 0 6 1 0"));
    return new House(new int[] {7, 12, 8}, calls);
  }

  /** Six books with all their pages shot, in the last year, with every death known. */
  private static House fullHouse() {
    List<String> calls = new ArrayList<>();
    int[] pages = {12, 7, 1, 12, 7, 12};
    for (int book = 0; book < pages.length; book++) {
      calls.add("book " + pages[book] + " 180 60 9 3000");
      for (int page = 0; page < pages[book]; page++) {
        calls.add("shot " + book + " " + page + " 90 " + page);
        calls.add("look " + book + " " + page);
      }
    }
    for (int years = 0; years < 20; years++) {
      calls.add("pass 100");
    }
    return new House(pages, calls);
  }

  /** All vaults are burnt, with lost pages; one hundred years are left. */
  private static House burntHouse() {
    List<String> calls = new ArrayList<>(List.of("book 1 60 60 0 -1", "book 7 60 60 0 2000"));
    for (int page = 0; page < 7; page++) {
      calls.add("shot 1 " + page + " 60 " + Long.MIN_VALUE);
      calls.add("words 1 " + page + " 99 99");
    }
    for (int vault = 0; vault < 4; vault++) {
      calls.add("burn " + vault);
    }
    for (int years = 0; years < 19; years++) {
      calls.add("pass 100");
    }
    calls.addAll(List.of("search 0", "search 1", "takeDown 0 true"));
    return new House(new int[] {1, 7}, calls);
  }

  // ---- the calls

  private void makeAll(House in) throws IllegalAccessException {
    build(in);
    for (Map.Entry<String, List<String>> call : Kinds.CALLS.entrySet()) {
      makeRows(in, call.getKey(), call.getValue(), new ArrayList<>());
    }
  }

  private void build(House in) throws IllegalAccessException {
    house = new ScanningHouse();
    model = new Model();
    for (String call : in.calls) {
      String[] words = call.split(" ");
      String[] arguments = Arrays.copyOfRange(words, 1, words.length);
      String got = ofClass.call(house, words[0], arguments);
      check(call, got, ofModel.call(model, words[0], arguments));
      if (got.startsWith("throws.")) {
        tellWrong(call + " throws, when the house is built");
      }
    }
    innards = Innards.of(house);
  }

  private void makeRows(House in, String name, List<String> kinds, List<String> row) throws IllegalAccessException {
    if (row.size() == kinds.size()) {
      make(in, name, kinds, row);
      return;
    }
    for (String value : edgesOf(kinds.get(row.size()))) {
      row.add(value);
      makeRows(in, name, kinds, row);
      row.remove(row.size() - 1);
    }
  }

  private void make(House in, String name, List<String> kinds, List<String> row) throws IllegalAccessException {
    String[] arguments = row.toArray(new String[0]);
    String call = name + row;
    made++;
    String due = ofModel.call(model, name, arguments);
    String byArguments = exceptionDue(in, kinds, row);
    if (!byArguments.isEmpty()) {
      check("the Model's " + call, due, byArguments);
    }
    check(call, ofClass.call(house, name, arguments), due);
    if (!due.startsWith("throws.")) {
      build(in);
    } else if (!Innards.of(house).equals(innards)) {
      tellWrong(call + " threw, and changed the object");
      build(in);
    }
  }

  /** The exception that the arguments alone make due; empty if none. */
  private static String exceptionDue(House in, List<String> kinds, List<String> row) {
    boolean isNoThing = false;
    boolean isOut = false;
    int book = -1;
    for (int i = 0; i < row.size(); i++) {
      String kind = kinds.get(i);
      if (kind.equals("image") || kind.equals("is")) {
        continue;
      }
      int value = Integer.parseInt(row.get(i));
      if (kind.equals("Book")) {
        book = value;
        isNoThing |= value < 0 || value >= in.pages.length;
      } else if (kind.equals("Page") || kind.equals("Row")) {
        isNoThing |= isNoThing || value < 0 || value >= in.pages[book];
      } else {
        boolean isWithin = value >= Kinds.low(kind) && value <= Kinds.high(kind);
        isNoThing |= Kinds.isThing(kind) && !isWithin;
        isOut |= !Kinds.isThing(kind) && !isWithin && !(kind.equals("death") && value == -1);
      }
    }
    return isNoThing ? "throws.IndexOutOfBoundsException" : isOut ? "throws.IllegalArgumentException" : "";
  }

  private static List<String> edgesOf(String kind) {
    switch (kind) {
      case "image":
        return List.of(Long.toString(Long.MIN_VALUE), "0", Long.toString(Long.MAX_VALUE));
      case "is":
        return List.of("true", "false");
      case "Book":
        return List.of("-1", "0", "1", "2", "3", "5", "6", LEAST, GREATEST);
      case "Page":
      case "Row":
        return List.of("-1", "0", "1", "5", "6", "7", "8", "11", "12", LEAST, GREATEST);
      default:
        int low = Kinds.low(kind);
        int high = Kinds.high(kind);
        List<String> edges = new ArrayList<>();
        for (int value : new int[] {low - 1, low, high, high + 1}) {
          edges.add(Integer.toString(value));
        }
        edges.addAll(List.of(LEAST, GREATEST));
        edges.addAll(MORE.getOrDefault(kind, List.of()));
        return edges;
    }
  }

  private void check(String call, String got, String due) {
    if (!got.equals(due)) {
      tellWrong(call + " answered " + got + ", due is " + due);
    }
  }

  private void tellWrong(String text) {
    wrong++;
    if (wrong <= MOST_TOLD) {
      System.out.println(text);
    }
  }
}
