import java.util.List;
import java.util.Map;
import java.util.TreeMap;

/** The calls of the face with the kinds of their arguments, and the range of each kind. */
final class Kinds {
  /** A kind with a capital letter is a thing that there is or is not; the others are plain arguments. */
  static final Map<String, List<String>> CALLS = new TreeMap<>(Map.ofEntries(
      Map.entry("book", List.of("pages", "opening", "strength", "wish", "death")),
      Map.entry("next", List.of()), Map.entry("shot", List.of("Book", "Page", "angle", "image")),
      Map.entry("look", List.of("Book", "Page")), Map.entry("calibrate", List.of()),
      Map.entry("rot", List.of("Vault", "Book", "Page", "bit")), Map.entry("burn", List.of("Vault")),
      Map.entry("build", List.of("Vault")), Map.entry("check", List.of("Vault", "Book")),
      Map.entry("looked", List.of()), Map.entry("mend", List.of("Vault", "Book")),
      Map.entry("copy", List.of("Vault", "Book", "Page")), Map.entry("isLost", List.of("Book", "Page")),
      Map.entry("words", List.of("Book", "Page", "word", "word")),
      Map.entry("order", List.of("Book", "Row")), Map.entry("orderAnew", List.of("Book", "Row")),
      Map.entry("gold", List.of("Book", "Page", "Place", "letter")),
      Map.entry("key", List.of("Keyer", "Book", "Page", "Place", "letter")),
      Map.entry("trust", List.of("Keyer")), Map.entry("pay", List.of("Keyer")),
      Map.entry("read", List.of("Book", "Page", "Place")), Map.entry("doubt", List.of("Book", "Page", "Place")),
      Map.entry("pass", List.of("years")), Map.entry("term", List.of("Land", "term")),
      Map.entry("died", List.of("Book", "year")), Map.entry("search", List.of("Book")),
      Map.entry("takeDown", List.of("Book", "is")), Map.entry("whyNot", List.of("Book", "Page", "Land")),
      Map.entry("about", List.of("Book", "what"))));

  /** Of the kinds that have one in every house: how far a Book, a Page and a Row go is told by the house. */
  private static final Map<String, int[]> RANGES = Map.ofEntries(
      Map.entry("pages", new int[] {1, 12}), Map.entry("opening", new int[] {60, 180}),
      Map.entry("strength", new int[] {1, 60}), Map.entry("wish", new int[] {0, 9}),
      Map.entry("death", new int[] {1500, 3000}), Map.entry("angle", new int[] {30, 180}),
      Map.entry("bit", new int[] {0, 63}), Map.entry("word", new int[] {0, 99}),
      Map.entry("letter", new int[] {0, 25}), Map.entry("years", new int[] {1, 100}),
      Map.entry("term", new int[] {0, 120}), Map.entry("year", new int[] {1500, 3000}),
      Map.entry("what", new int[] {0, 5}), Map.entry("Vault", new int[] {0, 3}),
      Map.entry("Place", new int[] {0, 3}), Map.entry("Keyer", new int[] {0, 4}),
      Map.entry("Land", new int[] {0, 3}));

  private Kinds() {}

  static int low(String kind) {
    return RANGES.get(kind)[0];
  }

  static int high(String kind) {
    return RANGES.get(kind)[1];
  }

  static boolean isThing(String kind) {
    return Character.isUpperCase(kind.charAt(0));
  }
}
