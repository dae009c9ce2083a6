import java.math.BigInteger;
import java.util.ArrayList;
import java.util.HashMap;
import java.util.HashSet;
import java.util.List;
import java.util.Map;
import java.util.Set;

/**
 * The document once more, written to be compared with the class: everything is kept under names in
 * maps and found out anew at each call, and the proofs are counted with big numbers.
 */
final class Model {
  private static final BigInteger WORD = BigInteger.ONE.shiftLeft(64);

  private record Shot(long image, boolean blurred, boolean faulty) {}

  private final List<Map<String, Integer>> books = new ArrayList<>();
  private final Map<List<Integer>, Shot> shots = new HashMap<>();      // book, page
  private final Map<List<Integer>, Long> copies = new HashMap<>();     // vault, book, page
  private final Map<List<Integer>, int[]> words = new HashMap<>();     // book, page
  private final Map<List<Integer>, Integer> gold = new HashMap<>();    // book, page, place
  private final Map<List<Integer>, Integer> keyed = new HashMap<>();   // keyer, book, page, place
  private final Map<Integer, Integer> terms = new HashMap<>();
  private final Set<Integer> burnt = new HashSet<>();
  private int drift = 0;
  private int lookedAt = 0;
  private int year = 2000;

  int book(int pages, int opening, int strength, int wish, int death) {
    range(pages, 1, 12);
    range(opening, 60, 180);
    range(strength, 1, 60);
    range(wish, 0, 9);
    if (death != -1) range(death, 1500, 3000);
    state(books.size() < 6);
    books.add(new HashMap<>(Map.of("pages", pages, "opening", opening, "strength", strength, "wish", wish,
        "death", death, "taken", 0, "searched", 0, "down", 0)));
    return books.size() - 1;
  }

  int next() {
    List<int[]> waiting = new ArrayList<>();
    for (int b = 0; b < books.size(); b++) {
      if (of(b, "strength") > 0 && shotPages(b).size() < of(b, "pages")) {
        waiting.add(new int[] {-of(b, "wish"), of(b, "strength"), b});
      }
    }
    waiting.sort((p, q) -> java.util.Arrays.compare(p, q));
    return waiting.isEmpty() ? -1 : waiting.get(0)[2];
  }

  int shot(int book, int page, int angle, long image) {
    page(book, page);
    range(angle, 30, 180);
    int cost = angle <= 90 ? 1 : 2;
    Shot before = shots.get(List.of(book, page));
    state(angle <= of(book, "opening") && of(book, "strength") >= cost && (before == null || before.faulty));
    books.get(book).merge("strength", -cost, Integer::sum);
    books.get(book).merge("taken", 1, Integer::sum);
    shots.put(List.of(book, page), new Shot(image, drift++ > 5, false));
    for (int v = 0; v <= 3; v++) if (!burnt.contains(v)) copies.put(List.of(v, book, page), image);
    return of(book, "strength");
  }

  boolean look(int book, int page) {
    page(book, page);
    Shot shot = shots.get(List.of(book, page));
    state(shot != null);
    shots.put(List.of(book, page), new Shot(shot.image, shot.blurred, shot.blurred));
    return shot.blurred;
  }

  int calibrate() {
    int before = drift;
    drift = 0;
    return before;
  }

  boolean rot(int vault, int book, int page, int bit) {
    index(vault, 4);
    page(book, page);
    range(bit, 0, 63);
    Long copy = copies.get(List.of(vault, book, page));
    state(copy != null);
    boolean isSet = (copy >>> bit) % 2 != 0;
    copies.put(List.of(vault, book, page), isSet ? copy - (1L << bit) : copy + (1L << bit));
    return holds(vault, book, page);
  }

  int burn(int vault) {
    index(vault, 4);
    state(burnt.add(vault));
    int before = copies.size();
    copies.keySet().removeIf(at -> at.get(0) == vault);
    return before - copies.size();
  }

  void build(int vault) {
    index(vault, 4);
    state(burnt.remove(vault));
  }

  int check(int vault, int book) {
    index(vault, 4);
    index(book, books.size());
    List<BigInteger> told = new ArrayList<>();
    List<BigInteger> kept = new ArrayList<>();
    for (int k = 0; k < 16; k++) {
      Shot shot = shots.get(List.of(book, k));
      Long copy = copies.get(List.of(vault, book, k));
      told.add(shot == null ? BigInteger.ZERO : proof(shot.image));
      kept.add(copy == null ? BigInteger.ZERO : proof(copy));
    }
    lookedAt = 0;
    return compare(told, kept, 0);
  }

  /** Leaves of a part of both trees; the first of them has the number at. */
  private int compare(List<BigInteger> told, List<BigInteger> kept, int at) {
    lookedAt++;
    if (top(told).equals(top(kept))) return 0;
    if (told.size() == 1) return 1 << at;
    int half = told.size() / 2;
    int end = told.size();
    return compare(told.subList(0, half), kept.subList(0, half), at)
        + compare(told.subList(half, end), kept.subList(half, end), at + half);
  }

  private static BigInteger top(List<BigInteger> part) {
    if (part.size() == 1) return part.get(0);
    int half = part.size() / 2;
    BigInteger former = top(part.subList(0, half));
    return former.multiply(BigInteger.valueOf(31)).add(top(part.subList(half, part.size()))).mod(WORD);
  }

  private static BigInteger proof(long x) {
    return BigInteger.valueOf(x).multiply(new BigInteger("6364136223846793005"))
        .add(new BigInteger("1442695040888963407")).mod(WORD);
  }

  int looked() {
    return lookedAt;
  }

  int mend(int vault, int book) {
    index(vault, 4);
    index(book, books.size());
    state(!burnt.contains(vault));
    int came = 0;
    for (int page : shotPages(book)) {
      for (int from = 0; from < 4 && !holds(vault, book, page); from++) {
        if (holds(from, book, page)) {
          copies.put(List.of(vault, book, page), copies.get(List.of(from, book, page)));
          came++;
        }
      }
    }
    return came;
  }

  long copy(int vault, int book, int page) {
    index(vault, 4);
    page(book, page);
    state(copies.containsKey(List.of(vault, book, page)));
    return copies.get(List.of(vault, book, page));
  }

  boolean isLost(int book, int page) {
    page(book, page);
    boolean any = false;
    for (int v = 0; v < 4; v++) any |= holds(v, book, page);
    return shots.containsKey(List.of(book, page)) && !any;
  }

  private boolean holds(int vault, int book, int page) {
    Shot shot = shots.get(List.of(book, page));
    Long copy = copies.get(List.of(vault, book, page));
    return shot != null && copy != null && proof(copy).equals(proof(shot.image));
  }

  void words(int book, int page, int first, int catchword) {
    page(book, page);
    range(first, 0, 99);
    range(catchword, 0, 99);
    words.put(List.of(book, page), new int[] {first, catchword});
  }

  int order(int book, int place) {
    index(book, books.size());
    index(place, of(book, "pages"));
    state(of(book, "pages") <= 7);
    List<Integer> best = bestRow(book, new ArrayList<>());
    return best == null ? -1 : best.get(place);
  }

  int orderAnew(int book, int place) {
    return order(book, place);
  }

  /** Of all orders that begin with this, whichever way they were found, the one that is the lowest. */
  private List<Integer> bestRow(int book, List<Integer> begun) {
    if (begun.size() == of(book, "pages")) return List.copyOf(begun);
    List<Integer> best = null;
    for (int page = of(book, "pages") - 1; page >= 0; page--) {
      if (begun.contains(page)) continue;
      if (!begun.isEmpty() && word(book, begun.get(begun.size() - 1), 1) != word(book, page, 0)) continue;
      begun.add(page);
      List<Integer> row = bestRow(book, begun);
      begun.remove(begun.size() - 1);
      if (row != null && (best == null || row.toString().compareTo(best.toString()) < 0)) best = row;
    }
    return best;
  }

  private int word(int book, int page, int which) {
    return words.getOrDefault(List.of(book, page), new int[2])[which];
  }

  int gold(int book, int page, int place, int letter) {
    page(book, page);
    index(place, 4);
    range(letter, 0, 25);
    Integer before = gold.put(List.of(book, page, place), letter);
    return before == null ? -1 : before;
  }

  int key(int keyer, int book, int page, int place, int letter) {
    index(keyer, 5);
    page(book, page);
    index(place, 4);
    range(letter, 0, 25);
    Integer before = keyed.put(List.of(keyer, book, page, place), letter);
    return before == null ? -1 : before;
  }

  int trust(int keyer) {
    index(keyer, 5);
    int all = 0;
    int right = 0;
    for (Map.Entry<List<Integer>, Integer> each : keyed.entrySet()) {
      Integer letter = gold.get(each.getKey().subList(1, 4));
      if (each.getKey().get(0) == keyer && letter != null) {
        all++;
        if (letter.equals(each.getValue())) right++;
      }
    }
    return all == 0 ? 50 : (int) Math.floor(100.0 * right / all + 1e-9);
  }

  int pay(int keyer) {
    index(keyer, 5);
    return (int) keyed.keySet().stream().filter(at -> at.get(0) == keyer).count() * trust(keyer) / 10;
  }

  int read(int book, int page, int place) {
    page(book, page);
    index(place, 4);
    Integer told = gold.get(List.of(book, page, place));
    if (told != null) return told;
    int best = -1;
    Map<Integer, Integer> weights = weights(book, page, place);
    for (int letter = 25; letter >= 0; letter--) {
      if (weights.containsKey(letter) && (best < 0 || weights.get(letter) >= weights.get(best))) best = letter;
    }
    return best;
  }

  int doubt(int book, int page, int place) {
    page(book, page);
    index(place, 4);
    if (gold.containsKey(List.of(book, page, place))) return 0;
    int together = 0;
    int greatest = 0;
    for (int weight : weights(book, page, place).values()) {
      together += weight;
      if (weight > greatest) greatest = weight;
    }
    return together == 0 ? 100 : 100 - 100 * greatest / together;
  }

  private Map<Integer, Integer> weights(int book, int page, int place) {
    Map<Integer, Integer> weights = new HashMap<>();
    for (int k = 0; k < 5; k++) {
      Integer letter = keyed.get(List.of(k, book, page, place));
      if (letter != null) weights.merge(letter, trust(k), Integer::sum);
    }
    return weights;
  }

  int pass(int years) {
    range(years, 1, 100);
    state(year + years <= 4000);
    return year += years;
  }

  int term(int land, int years) {
    index(land, 4);
    range(years, 0, 120);
    Integer before = terms.put(land, years);
    return before == null ? 70 : before;
  }

  void died(int book, int year) {
    index(book, books.size());
    range(year, 1500, 3000);
    state(of(book, "death") == -1);
    books.get(book).put("death", year);
  }

  boolean search(int book) {
    index(book, books.size());
    return books.get(book).put("searched", 1) == 1;
  }

  boolean takeDown(int book, boolean is) {
    index(book, books.size());
    return books.get(book).put("down", is ? 1 : 0) == 1;
  }

  int whyNot(int book, int page, int land) {
    page(book, page);
    index(land, 4);
    int death = of(book, "death");
    if (!shots.containsKey(List.of(book, page))) return 1;
    if (of(book, "down") == 1) return 2;
    if (death == -1 && of(book, "searched") == 0) return 3;
    if (death != -1 && !(year > death + terms.getOrDefault(land, 70))) return 4;
    return isLost(book, page) ? 5 : 0;
  }

  int about(int book, int what) {
    index(book, books.size());
    range(what, 0, 5);
    List<Integer> with = shotPages(book);
    return switch (what) {
      case 0 -> of(book, "strength");
      case 1 -> with.size();
      case 2 -> (int) with.stream().filter(page -> shots.get(List.of(book, page)).faulty).count();
      case 3 -> (int) with.stream().filter(page -> isLost(book, page)).count();
      case 4 -> of(book, "death");
      default -> of(book, "taken");
    };
  }

  private List<Integer> shotPages(int book) {
    List<Integer> pages = new ArrayList<>();
    for (int page = 0; page < 12; page++) if (shots.containsKey(List.of(book, page))) pages.add(page);
    return pages;
  }

  private int of(int book, String what) {
    return books.get(book).get(what);
  }

  private void page(int book, int page) {
    index(book, books.size());
    index(page, of(book, "pages"));
  }

  private static void index(int at, int count) {
    if (at < 0 || at >= count) throw new IndexOutOfBoundsException();
  }

  private static void range(int value, int low, int high) {
    if (value < low || value > high) throw new IllegalArgumentException();
  }

  private static void state(boolean is) {
    if (!is) throw new IllegalStateException();
  }
}
