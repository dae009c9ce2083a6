import java.io.IOException;
import java.nio.file.Files;
import java.nio.file.Path;
import java.util.ArrayList;
import java.util.LinkedHashMap;
import java.util.List;
import java.util.Map;

/**
 * Makes the runs of src/test/runs/sentences, one file a head of the document. Each run quotes the words
 * of the document that it tries, and each sentence below these heads is quoted by a run of its own.
 */
public final class SentencesTest {
  private static final Path DOCUMENT = Path.of("../shared/DOC.md");
  private static final Path FOLDER = Path.of("src/test/runs/sentences");
  private static final String[] HEADS = {"What it is", "Books", "Vaults, proofs", "Order of pages", "Letters",
      "Rights", "Exceptions"};
  private static final int PROMISES = 30;

  private final Runs runs = new Runs();
  private final Map<String, List<String>> sentences = new LinkedHashMap<>();
  private int sentencesInAll;
  private int runsInAll;

  public static void main(String[] args) throws Exception {
    SentencesTest test = new SentencesTest();
    test.readDocument();
    for (String head : HEADS) {
      test.tryHead(head, head.toLowerCase().replaceAll("\\W+", "-"));
    }
    for (int promise = 1; promise <= PROMISES; promise++) {
      test.tryHead("Promise " + promise, String.format("promise-%02d", promise));
    }
    System.out.println("SentencesTest: " + test.sentencesInAll + " sentences, " + test.runsInAll + " runs, "
        + test.runs.looked + " answers, " + test.runs.wrong + " wrong");
    System.exit(test.runs.wrong == 0 ? 0 : 1);
  }

  /** Puts the sentences of the document below their heads; a list's row is a sentence of its own. */
  private void readDocument() throws IOException {
    String head = "";
    for (String line : Files.readAllLines(DOCUMENT)) {
      boolean isHead = line.startsWith("#") || line.equals("Vaults, proofs");
      if (isHead) {
        head = line.replaceAll("^#+ ", "").replaceAll("^(Promise \\d+):.*", "$1");
        sentences.put(head, new ArrayList<>());
      } else if (!line.isBlank() && !head.isEmpty()) {
        for (String sentence : line.replace("`", "").split("(?<=\\.)\\s+|(?<=\\.\\))\\s+")) {
          sentences.get(head).add(sentence.trim());
        }
      }
    }
  }

  private void tryHead(String head, String file) throws IOException, IllegalAccessException {
    runs.readFile(FOLDER.resolve(file + ".txt"));
    List<String> open = new ArrayList<>();
    for (String sentence : sentences.getOrDefault(head, List.of())) {
      if (tellsOfCalls(sentence)) {
        open.add(sentence);
      }
    }
    sentencesInAll += open.size();
    if (open.isEmpty()) {
      runs.tellWrong("the document has no sentences below " + head);
    }
    List<String> all = List.copyOf(open);
    for (String title : runs.titles) {
      runsInAll++;
      String quote = title.replaceAll("^\"(.*)\".*$", "$1");
      int at = indexOfQuote(all, quote);
      if (at < 0) {
        runs.tellWrong(file + ": the document does not say below " + head + ": " + quote);
      } else {
        open.remove(all.get(at));
      }
    }
    for (String sentence : open) {
      runs.tellWrong(file + ": no run of its own for: " + sentence);
    }
  }

  private static boolean tellsOfCalls(String sentence) {
    return !sentence.startsWith("Ahead of the calls") && !sentence.startsWith("Scanning House, pages");
  }

  private static int indexOfQuote(List<String> all, String quote) {
    for (int i = 0; i < all.size(); i++) {
      if (all.get(i).contains(quote)) {
        return i;
      }
    }
    return -1;
  }
}
