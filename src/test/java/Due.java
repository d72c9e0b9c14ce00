import java.io.IOException;
import java.nio.charset.StandardCharsets;
import java.nio.file.Files;
import java.nio.file.Path;
import java.util.TreeMap;

/** Asks answers, each under the sentence of the document that it rests on. */
final class Due {
  static final int TERMS = 0;
  private static final int PROMISES = 33;

  private final String document;
  private final TreeMap<Integer, Integer> sentences = new TreeMap<>();
  private String sentence = "(none)";
  private boolean asked = true;
  private int answers = 0;
  private int wrong = 0;

  Due(Path document) throws IOException {
    this.document = Files.readString(document, StandardCharsets.UTF_8);
  }

  /** The next answers rest on this sentence of a promise (0: of the Terms), which must stand there. */
  void says(int promise, String quote) {
    if (!asked) tell("nothing is asked under this sentence");
    sentence = (promise == TERMS ? "Terms" : "Promise " + promise) + ": " + quote;
    asked = false;
    sentences.merge(promise, 1, Integer::sum);
    if (!plain(section(promise)).contains(plain(quote))) tell("the document does not say so");
  }

  void is(String call, long got, long want) {
    asked = true;
    answers++;
    if (got != want) tell(call + " answered " + got + ", due is " + want);
  }

  void same(String what, String got, String want) {
    asked = true;
    answers++;
    if (!got.equals(want)) tell(what + ":\n    got " + got + "\n    due " + want);
  }

  /** Whether all was as due, and every promise was asked. */
  boolean end(String name) {
    if (!asked) tell("nothing is asked under this sentence");
    int all = 0;
    for (int promise = TERMS; promise <= PROMISES; promise++) {
      sentence = "Promise " + promise;
      if (!sentences.containsKey(promise)) tell("no sentence of it is asked");
      all += sentences.getOrDefault(promise, 0);
    }
    System.out.println(name + ": " + all + " sentences, " + answers + " answers, " + wrong + " not as due");
    return wrong == 0;
  }

  private void tell(String what) {
    wrong++;
    System.out.println(sentence + "\n  " + what);
  }

  private String section(int promise) {
    String head = promise == TERMS ? "## Terms" : "## Promise " + promise + ":";
    int from = document.indexOf(head);
    if (from < 0) return "";
    int to = document.indexOf("\n## ", from + head.length());
    return to < 0 ? document.substring(from) : document.substring(from, to);
  }

  private static String plain(String text) { return text.replaceAll("\\s+", " ").trim(); }
}
