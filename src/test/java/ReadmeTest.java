import java.io.IOException;
import java.nio.charset.StandardCharsets;
import java.nio.file.Files;
import java.nio.file.Path;
import java.util.regex.Matcher;
import java.util.regex.Pattern;

/** README.md: every call of the document's face stands there in the document's words, and its example answers so. */
public final class ReadmeTest {
  private static final int PROMISES = 33;
  private static int wrong = 0;

  public static void main(String[] args) throws IOException {
    String page = Files.readString(Path.of("README.md"), StandardCharsets.UTF_8);
    calls(page, Files.readString(Path.of("../shared/DOC.md"), StandardCharsets.UTF_8));
    example(page);
    tests(page);
    System.out.println("ReadmeTest: " + wrong + " not so");
    if (wrong != 0) System.exit(1);
  }

  private static void require(boolean holds, String what) {
    if (!holds) {
      wrong++;
      System.out.println("README.md: " + what);
    }
  }

  private static void calls(String page, String document) {
    Matcher promise = Pattern.compile("(?s)## Promise (\\d+): [^\n]*\n+`([^`]*)`: (.*?)\n\n## ").matcher(document);
    int found = 0;
    int from = 0;
    while (promise.find(from)) {
      found++;
      String row = "| " + promise.group(1) + " | `" + promise.group(2) + "` | " + promise.group(3) + " |";
      require(page.contains(row), "has no row '" + row + "'");
      // the next promise begins with what ended this one
      from = promise.end() - 3;
    }
    require(found == PROMISES, "the document has " + found + " promises");
  }

  private static void example(String page) {
    ButterflyCode code = new ButterflyCode();
    String text = "size 4;keep 5;check 3 5;list 4";
    require(page.contains("// \"" + text + "\"\n"), "does not tell the example's text");
    for (int at = 0; at < text.length(); at += 20) {
      int[] n = new int[5];
      for (int i = 0; i < 20; i++) n[i / 4] = n[i / 4] << 8 | (at + i < text.length() ? text.charAt(at + i) : 0);
      shown(page, "feed(" + hex(n[0]) + ", " + hex(n[1]) + ", " + hex(n[2]) + ", " + hex(n[3]) + ", " + hex(n[4]) + ")", code.feed(n[0], n[1], n[2], n[3], n[4]));
    }
    shown(page, "end(30)", code.end(text.length()));
    shown(page, "code()", code.code());
    shown(page, "word(19)", code.word(19));
    shown(page, "draws(26)", code.draws(26));
    shown(page, "send(19, 40, 65)", code.send(19, 40, 65));
    shown(page, "read()", code.read());
    for (int what = 0; what < 3; what++) shown(page, "told(" + what + ")", code.told(what));
    shown(page, "grown(0)", code.grown(0));
    shown(page, "flipped(0)", code.flipped(0));
    shown(page, "sought(1)", code.sought(1));
    shown(page, "nearest(0)", code.nearest(0));
    shown(page, "undo()", code.undo());
  }

  private static String hex(int number) { return number == 0 ? "0" : String.format("0x%08x", number); }

  private static void shown(String page, String call, long answer) {
    Matcher m = Pattern.compile("(?m)^code\\." + Pattern.quote(call) + "; +// (-?\\d+)(:|$)").matcher(page);
    boolean found = m.find();
    require(found && Long.parseLong(m.group(1)) == answer, call + " answers " + answer);
  }

  private static void tests(String page) throws IOException {
    require(page.contains(".ci/run"), "does not say how to run the tests");
    try (var files = Files.list(Path.of("src/test/java"))) {
      files.map(f -> f.getFileName().toString()).filter(f -> f.endsWith("Test.java")).forEach(f -> {
        String name = f.substring(0, f.length() - 5);
        require(page.contains("- `" + name + "`:"), "does not tell of " + name);
      });
    }
  }
}
