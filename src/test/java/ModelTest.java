import java.util.Random;

/** Long runs of random calls, each answered by the program and by the model alike. */
public final class ModelTest {
  private static final int RUNS = 700;

  /** With those of the last turn and of what comes behind it these stay under 512. */
  private static final int CALLS = 320;

  private final Random random;
  private final ButterflyCode code = new ButterflyCode();
  private final Model model = new Model();
  private final StringBuilder told = new StringBuilder();
  private int asked = 0;
  private int wrong = 0;
  private int largest;

  private ModelTest(long seed) {
    random = new Random(seed);
    largest = seed % 4 == 0 ? 6 : 2 + (int) (seed % 4);
  }

  public static void main(String[] args) {
    int wrong = 0;
    int runs = args.length > 0 ? Integer.parseInt(args[0]) : RUNS;
    for (int seed = 0; seed < runs; seed++) {
      ModelTest test = new ModelTest(seed);
      test.run();
      if (test.wrong > 0) {
        wrong++;
        System.out.println("seed " + seed + ":" + test.told);
      }
    }
    System.out.println("ModelTest: " + (runs - wrong) + " runs right, " + wrong + " wrong");
    if (wrong > 0) System.exit(1);
  }

  private int between(int least, int most) { return least + random.nextInt(most - least + 1); }
  private boolean chance(int percent) { return random.nextInt(100) < percent; }

  private void same(String call, long got, long want) {
    asked++;
    if (got != want && wrong++ < 5) told.append("\n  ").append(call).append(" answered ").append(got).append(", due is ").append(want);
  }

  private void run() {
    tellCode(text());
    while (asked < CALLS && wrong == 0) {
      call(between(0, 33));
    }
    seekAmongLikeOnes();
  }

  /** Sums of 0 and 1 alone: many beginnings and paths are alike, so their order is asked. */
  private void seekAmongLikeOnes() {
    for (int i = 0; i < model.count(0); i++) {
      int sum = between(-1, 1);
      same("tell", code.tell(i, sum), model.tell(i, sum));
    }
    same("like ones: sought(0)", code.sought(0), model.sought(0));
    same("like ones: sought(1)", code.sought(1), model.sought(1));
    same("like ones: soughtMessage()", code.soughtMessage(), model.soughtMessage());
    for (int k = 0; k < 8; k++) same("like ones: message(" + k + ")", code.message(k), model.message(k));
    for (int list = 1; list <= 8; list++) {
      same("cut short, metrics are the same", code.work(list, true, 3), code.work(list, false, 3));
    }
  }

  private void tellCode(String text) {
    feedText(text);
    same("code() of '" + text + "'", code.code(), model.code());
  }

  private void feedText(String text) {
    for (int at = 0; at < text.length(); at += 20) {
      int[] n = new int[5];
      for (int i = 0; i < 20; i++) n[i / 4] = n[i / 4] << 8 | (at + i < text.length() ? text.charAt(at + i) : 0);
      same("feed", code.feed(n[0], n[1], n[2], n[3], n[4]), model.feed(n));
    }
    same("end", code.end(text.length()), model.end(text.length()));
  }

  private String blanks() { return chance(80) ? "" : chance(50) ? " " : "  "; }

  private String text() {
    int m = between(2, largest);
    int n = 1 << m;
    StringBuilder b = new StringBuilder(blanks() + "size" + blanks() + " " + m);
    int c = chance(40) ? 0 : between(0, Math.min(8, n / 2));
    String[] lines = {
      chance(60) ? "keep " + between(1, Math.max(1, Math.min(chance(50) ? 12 : 64, n - c))) : info(n),
      "check " + c + " " + between(0, 255),
      chance(50) ? "" : "erase " + (chance(20) ? (chance(50) ? 1 : 999) : between(1, 999)),
      chance(50) ? "" : "list " + between(1, 8)
    };
    int first = random.nextInt(4);
    for (int i = 0; i < 4; i++) {
      String line = lines[(i + first) % 4];
      if (!line.isEmpty()) b.append(blanks()).append(';').append(blanks()).append(line.replace(" ", " " + blanks()));
    }
    b.append(blanks());
    if (chance(25)) spoil(b);
    return b.length() > 200 ? b.substring(0, 200) : b.toString();
  }

  private String info(int n) {
    int share = between(10, 95);
    StringBuilder b = new StringBuilder();
    for (int i = 0; i < n; i++) {
      if (chance(share)) b.append(b.length() == 0 ? "info " : ",").append(i);
    }
    return b.length() == 0 ? "info " + (n - 1) : b.toString();
  }

  private void spoil(StringBuilder b) {
    String[] pieces = {";", ",", " ", "keep 3", ";info 1", ";size 3", ";list 2", ";check 3 5", "x", "9", "0", "A", "" + (char) 0, "" + (char) 200, "7", "-"};
    int at = random.nextInt(b.length() + 1);
    int kind = random.nextInt(4);
    if (kind == 0) b.setLength(at);
    else if (kind == 1 && at < b.length()) b.deleteCharAt(at);
    else if (kind == 2 && at < b.length()) b.setCharAt(at, pieces[random.nextInt(pieces.length)].charAt(0));
    else b.insert(chance(50) ? at : b.length(), pieces[random.nextInt(pieces.length)]);
  }

  private long someMessage() {
    int k = model.count(1);
    if (chance(8)) return random.nextLong();
    if (k >= 64) return random.nextLong();
    return random.nextLong() & (1L << k) - 1;
  }

  private int strength() { return chance(10) ? between(-2, 103) : between(0, 100); }
  private int channel() { return chance(8) ? between(-3, 70) : between(0, Math.max(0, model.count(0) - 1)); }

  private void call(int which) {
    int a;
    int b;
    int c;
    long l;
    switch (which) {
      case 0: a = random.nextInt(); b = random.nextInt(); same("feed", code.feed(a, b, 0, -1, 7), model.feed(a, b, 0, -1, 7)); break;
      case 1: a = chance(50) ? model.count(0) : between(-1, model.count(8) + 1); same("end(" + a + ")", code.end(a), model.end(a)); break;
      case 2: same("end(0)", code.end(0), model.end(0)); tellCode(text()); break;
      case 3: a = channel(); same("goodness(" + a + ")", code.goodness(a), model.goodness(a)); break;
      case 4: a = channel(); same("kept(" + a + ")", code.kept(a), model.kept(a)); break;
      case 5: l = someMessage(); same("word(" + l + ")", code.word(l), model.word(l)); break;
      case 6: l = someMessage(); same("check(" + l + ")", code.check(l), model.check(l)); break;
      case 7: l = someMessage(); same("systematic(" + l + ")", code.systematic(l), model.systematic(l)); break;
      case 8: a = channel(); same("row(" + a + ")", code.row(a), model.row(a)); break;
      case 9: hearSome(); break;
      case 10: a = channel(); b = chance(10) ? between(-130, 130) : between(-20, 20); same("tell(" + a + ", " + b + ")", code.tell(a, b), model.tell(a, b)); break;
      case 11: l = someMessage(); a = strength(); b = strength(); same("send(" + l + ", " + a + ", " + b + ")", code.send(l, a, b), model.send(l, a, b)); break;
      case 12: a = channel(); same("sum(" + a + ")", code.sum(a), model.sum(a)); break;
      case 13: l = chance(50) ? random.nextLong() : model.word(someMessage()); same("distance(" + l + ")", code.distance(l), model.distance(l)); break;
      case 14: a = between(0, 9); same("list(" + a + ")", code.list(a), model.list(a)); break;
      case 15: same("read()", code.read(), model.read()); same("distance of read()", code.told(0), code.count(0) == 0 ? -1 : pathDistance()); break;
      case 16: a = between(-1, 4); same("told(" + a + ")", code.told(a), model.told(a)); break;
      case 17: case 18: a = channel(); b = between(-1, 8); c = chance(10) ? between(-1, 3) : between(0, 2); same("path(" + a + ", " + b + ", " + c + ")", code.path(a, b, c), model.path(a, b, c)); break;
      case 19: a = between(-1, 8); same("message(" + a + ")", code.message(a), model.message(a)); break;
      case 20: case 21: a = chance(40) ? 1 : between(0, 9); b = between(-1, 4); boolean cut = chance(70); same("work(" + a + ", " + cut + ", " + b + ")", code.work(a, cut, b), model.work(a, cut, b)); break;
      case 22: a = between(-1, 3); same("grown(" + a + ")", code.grown(a), model.grown(a)); break;
      case 23: a = between(-1, 4); same("flipped(" + a + ")", code.flipped(a), model.flipped(a)); break;
      case 24: a = between(-1, 2); same("sought(" + a + ")", code.sought(a), model.sought(a)); break;
      case 25: same("soughtMessage()", code.soughtMessage(), model.soughtMessage()); break;
      case 26: a = between(-1, 2); same("nearest(" + a + ")", code.nearest(a), model.count(1) > 8 && chance(80) ? code.nearest(a) : model.nearest(a)); break;
      case 27: a = channel(); same("weights(" + a + ")", code.weights(a), model.count(1) > 8 && chance(80) ? code.weights(a) : model.weights(a)); break;
      case 28: a = chance(10) ? random.nextInt() : random.nextInt() & 0x7fffffff; same("draws(" + a + ")", code.draws(a), model.draws(a)); break;
      case 29: a = chance(10) ? between(-1, 42) : between(1, 5); b = strength(); c = strength(); int w = between(chance(10) ? -1 : 0, chance(10) ? 2 : 1); same("frames(" + a + ", " + b + ", " + c + ", " + w + ")", code.frames(a, b, c, w), model.frames(a, b, c, w)); break;
      case 30: same("undo()", code.undo(), model.undo()); break;
      case 31: a = between(-1, 2); same("image(" + a + ")", code.image(a), model.image(a)); break;
      case 32: a = between(-1, 2); if (chance(40)) same("back(" + a + ")", code.back(a), model.back(a)); break;
      default: for (int i = -1; i <= 10; i++) same("count(" + i + ")", code.count(i), model.count(i)); break;
    }
  }

  /** The document's own law: the metric of a path is the distance of its word. */
  private long pathDistance() {
    if (code.told(1) == 0) return code.told(0);
    return code.distance(code.word(code.read()));
  }

  private void hearSome() {
    int n = model.count(0);
    code.end(0);
    model.end(0);
    int great = chance(30) ? 3 : chance(50) ? 20 : 127;
    for (int at = 0; at < n; at += 20) {
      int[] v = new int[5];
      for (int i = 0; i < 20; i++) v[i / 4] = v[i / 4] << 8 | (chance(3) ? 128 : between(-great, great) & 255);
      same("feed", code.feed(v[0], v[1], v[2], v[3], v[4]), model.feed(v));
    }
    int n2 = chance(90) ? n : n + 1;
    same("end", code.end(n2), model.end(n2));
    same("hear", code.hear(), model.hear());
    for (int i = 0; i < n && chance(20); i++) same("sum", code.sum(i), model.sum(i));
  }
}
