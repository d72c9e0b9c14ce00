import java.util.Random;

/** Readings of small codes, asked by what the document says of them all: a metric is a distance. See ByDistance. */
public final class LawsTest {
  private static final int MOST_CALLS = 500;
  private static int wrong = 0;
  private static int answers = 0;

  private final String text;
  private final ByDistance law;
  private final int list;
  private ButterflyCode code = null;
  private int calls = MOST_CALLS;

  private LawsTest(ByDistance law, int list) {
    this.law = law;
    this.list = list;
    StringBuilder b = new StringBuilder();
    for (int i = 0; i < law.n; i++) if (law.kept[i]) b.append(b.length() == 0 ? "" : ",").append(i);
    text = "size " + Integer.numberOfTrailingZeros(law.n) + ";info " + b + ";check " + law.c + " " + law.poly + ";list " + list;
  }

  public static void main(String[] args) {
    everyCodeOfFour();
    Random random = new Random(5);
    for (int i = 0; i < 400; i++) some(random, 8, i % 4 == 0 ? 1 : i % 4 == 1 ? 3 : i % 4 == 2 ? 20 : 127);
    for (int i = 0; i < 60; i++) some(random, 16, i % 3 == 0 ? 1 : i % 3 == 1 ? 9 : 127);
    System.out.println("LawsTest: " + answers + " answers, " + wrong + " not as due");
    if (wrong != 0) System.exit(1);
  }

  /** Each set of kept channels, each number of check bits, and all sums of -1, 0 and 1. */
  private static void everyCodeOfFour() {
    for (int set = 1; set < 16; set++) {
      boolean[] kept = new boolean[4];
      for (int i = 0; i < 4; i++) kept[i] = (set >> i & 1) != 0;
      for (int c = 0; c < Integer.bitCount(set); c++) {
        for (int s = 0; s < 81; s++) {
          int[] sums = {s % 3 - 1, s / 3 % 3 - 1, s / 9 % 3 - 1, s / 27 - 1};
          new LawsTest(new ByDistance(kept, c, 5 * s % 256, sums), 1 + (s + set) % 8).ask();
        }
      }
    }
  }

  private static void some(Random random, int n, int great) {
    boolean[] kept = new boolean[n];
    int share = 1 + random.nextInt(9);
    int many = 0;
    for (int i = 0; i < n; i++) {
      kept[i] = random.nextInt(10) < share || i == n - 1;
      if (kept[i]) many++;
    }
    int[] sums = new int[n];
    for (int i = 0; i < n; i++) sums[i] = random.nextInt(2 * great + 1) - great;
    int c = random.nextInt(Math.min(9, many));
    new LawsTest(new ByDistance(kept, c, random.nextInt(256), sums), 1 + random.nextInt(8)).ask();
  }

  /** The object, or a new one told the same when it has been called as often as is promised. */
  private ButterflyCode code() {
    calls++;
    if (calls > MOST_CALLS) {
      code = Codes.of(text);
      for (int i = 0; i < law.n; i++) code.tell(i, law.sums[i]);
      calls = 2 * law.n;
    }
    return code;
  }

  private void due(String call, long got, long want) {
    answers++;
    if (got == want) return;
    wrong++;
    StringBuilder heard = new StringBuilder();
    for (int s : law.sums) heard.append(' ').append(s);
    System.out.println("'" + text + "', heard" + heard + ": " + call + " answered " + got + ", due is " + want);
  }

  private void ask() {
    askPaths();
    askOthers();
    askWork();
    askWords();
  }

  private void askPaths() {
    ByDistance.Reading r = law.new Reading(list, -1);
    for (int i = 0; i < law.n; i++) {
      int many = r.metrics.get(i).length;
      for (int p = 0; p < many; p++) {
        due("path(" + i + ", " + p + ", 0)", code().path(i, p, 0), r.metrics.get(i)[p]);
        due("path(" + i + ", " + p + ", 1)", code().path(i, p, 1), r.bits.get(i)[p]);
        due("path(" + i + ", " + p + ", 2)", code().path(i, p, 2), r.aheads.get(i)[p]);
      }
      due("path(" + i + ", " + many + ", 0)", code().path(i, many, 0), -2);
    }
    for (int p = 0; p < r.paths.length; p++) due("message(" + p + ")", code().message(p), law.message(r.paths[p]));
    due("message behind the last", code().message(r.paths.length), -1);
    due("read()", code().read(), law.message(r.paths[r.chosen]));
    due("told(0)", code().told(0), law.distance(ByDistance.wordOf(r.paths[r.chosen])));
    due("told(1)", code().told(1), r.holds ? 1 : 0);
    due("told(2)", code().told(2), r.chosen);
    due("told(3)", code().told(3), r.paths.length);
  }

  private void askOthers() {
    int grown = 1;
    while (grown < 8 && !law.new Reading(grown, -1).holds) grown *= 2;
    ByDistance.Reading r = law.new Reading(grown, -1);
    due("grown(0)", code().grown(0), grown);
    due("grown(1)", code().grown(1), r.holds ? 1 : 0);
    due("grown(2)", code().grown(2), r.metricOf(r.chosen));
    int[] flipped = law.flipped();
    for (int what = 0; what < 4; what++) due("flipped(" + what + ")", code().flipped(what), flipped[what]);
    int[] sought = law.sought();
    due("sought(0)", code().sought(0), sought == null ? -3 : sought[0]);
    due("sought(1)", code().sought(1), sought == null ? -3 : sought[1]);
    due("soughtMessage()", code().soughtMessage(), sought == null ? -1 : sought[2]);
    int[] nearest = law.k() > 12 ? new int[] {-3, -3} : law.nearest();
    due("nearest(0)", code().nearest(0), nearest[0]);
    due("nearest(1)", code().nearest(1), nearest[1]);
    if (sought != null && law.k() <= 12) due("sought and nearest are as near", code().sought(0), nearest[1]);
  }

  private void askWork() {
    for (int l = 1; l <= 8; l++) {
      int first = law.new Reading(l, -1).metricOf(0);
      due("work(" + l + ", false, 3)", code().work(l, false, 3), first);
      due("work(" + l + ", true, 3)", code().work(l, true, 3), first);
      int[] plain = law.work(0, law.n, l, false);
      int[] cut = law.work(0, law.n, l, true);
      for (int what = 0; what < 3; what++) {
        due("work(" + l + ", false, " + what + ")", code().work(l, false, what), plain[what]);
        int got = code().work(l, true, what);
        // free nodes are cut short, too, with a list of 1: less, but how much less is not told by distances
        due("work(" + l + ", true, " + what + ")", got, l == 1 ? Math.min(got, cut[what]) : cut[what]);
      }
    }
  }

  private void askWords() {
    int[] weights = new int[law.n + 1];
    for (int m = 0; m < 1 << law.k(); m++) {
      long word = ByDistance.wordOf(law.channels(m));
      weights[Long.bitCount(word)]++;
      if (m % 37 != 0) continue;
      due("word(" + m + ")", code().word(m), word);
      due("check(" + m + ")", code().check(m), law.check(m));
      due("distance of word(" + m + ")", code().distance(word), law.distance(word));
      if (law.c == 0) askSystematic(m);
    }
    for (int w = 0; w <= law.n; w++) due("weights(" + w + ")", code().weights(w), law.k() > 12 ? -3 : weights[w]);
  }

  /** A systematic word is a word, and has the message where kept channels are. */
  private void askSystematic(int m) {
    long word = code().systematic(m);
    if (word == -1) return;
    due("systematic(" + m + ") at kept channels", law.message((int) word), m);
    int channels = 0;
    // butterflies undo themselves
    for (int i = 0; i < law.n; i++) if (Long.bitCount(word & above(i)) % 2 != 0) channels |= 1 << i;
    due("systematic(" + m + ") is a word", ByDistance.wordOf(channels), word);
    for (int i = 0; i < law.n; i++) if (!law.kept[i]) due("systematic(" + m + ") at frozen channel " + i, channels >> i & 1, 0);
  }

  /** The places that have all bits of a channel: of a word's bits there an odd number is 1, if the channel's is. */
  private static long above(int channel) {
    long above = 0;
    for (int j = 0; j < 64; j++) if ((channel & ~j) == 0) above |= 1L << j;
    return above;
  }
}
