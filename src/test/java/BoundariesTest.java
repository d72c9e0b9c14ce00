import java.nio.file.Path;

/** Each sentence of the document that names a boundary case, quoted, with the answers that rest on it. */
public final class BoundariesTest {
  public static void main(String[] args) throws Exception {
    Due due = new Due(Path.of("../shared/DOC.md"));
    BoundsOfText.ask(due);
    BoundsOfCode.ask(due);
    BoundsOfSums.ask(due);
    BoundsOfReading.ask(due);
    BoundsOfWords.ask(due);
    BoundsOfActs.ask(due);
    if (!due.end("BoundariesTest")) System.exit(1);
  }
}
