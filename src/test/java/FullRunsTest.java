import java.util.Random;

/**
 * "An object is used for at most 512 calls after it has been made": runs of just so many, in any order, with any
 * numbers, each answered by the program and by the model alike.
 */
public final class FullRunsTest {
  private static final int RUNS = 160;
  private static final int CALLS = 512;
  private static final int[] EXTREMES = {
    Integer.MIN_VALUE, Integer.MIN_VALUE + 1, -65536, -129, -128, -127, -3, -2, -1, 0, 1, 7, 8, 9, 12, 40, 41, 63, 64, 65, 100,
    101, 127, 128, 200, 65536, Integer.MAX_VALUE - 1, Integer.MAX_VALUE
  };

  private final Random random;
  private final ButterflyCode code = new ButterflyCode();
  private final Model model = new Model();
  private final StringBuilder told = new StringBuilder();
  private final int codes;
  private int calls = 0;
  private boolean right = true;

  /** Runs differ by how many of a hundred calls tell a code: some never have one. */
  private FullRunsTest(int seed) {
    random = new Random(seed);
    codes = seed % 8 == 0 ? 0 : seed % 8 < 4 ? 1 : 6;
  }

  public static void main(String[] args) {
    int wrong = 0;
    int runs = args.length > 0 ? Integer.parseInt(args[0]) : RUNS;
    for (int seed = 0; seed < runs; seed++) {
      FullRunsTest test = new FullRunsTest(seed);
      test.run();
      if (!test.right) {
        wrong++;
        System.out.println("run " + seed + ":" + test.told);
      }
    }
    System.out.println("FullRunsTest: " + runs + " runs of " + CALLS + " calls, " + wrong + " wrong");
    if (wrong > 0) System.exit(1);
  }

  private void run() {
    if (codes == 1) tellCode();
    while (calls < CALLS && right) {
      if (random.nextInt(100) < codes) tellCode();
      else call(random.nextInt(32));
    }
  }

  private int between(int least, int most) { return least + random.nextInt(most - least + 1); }

  private int number() {
    switch (random.nextInt(8)) {
      case 0: return random.nextInt();
      case 1: return EXTREMES[random.nextInt(EXTREMES.length)];
      case 2: return between(-130, 130);
      case 3: return between(-1, 64);
      default: return between(-1, 8);
    }
  }

  private long longNumber() {
    int k = model.count(1);
    switch (random.nextInt(8)) {
      case 0: return random.nextLong();
      case 1: return -1L >>> random.nextInt(64);
      case 2: return 1L << random.nextInt(64);
      default: return k > 63 ? random.nextLong() : random.nextLong() & (1L << k) - 1;
    }
  }

  private void same(String call, long got, long want) {
    calls++;
    if (got == want) return;
    right = false;
    told.append("\n  call ").append(calls).append(", ").append(call).append(", answered ").append(got).append(", due is ").append(want);
  }

  /** Texts take several calls, so each of these looks whether there is one left. */
  private void feed(int[] n) {
    if (calls < CALLS) same("feed", code.feed(n[0], n[1], n[2], n[3], n[4]), model.feed(n));
  }

  private void end(int n) {
    if (calls < CALLS) same("end(" + n + ")", code.end(n), model.end(n));
  }

  private void put(byte[] bytes) {
    end(0);
    for (int at = 0; at < bytes.length; at += 20) {
      int[] n = new int[5];
      for (int i = 0; i < 20; i++) n[i / 4] = n[i / 4] << 8 | (at + i < bytes.length ? bytes[at + i] & 255 : 0);
      feed(n);
    }
    end(bytes.length);
  }

  private void tellCode() {
    String text = text();
    byte[] bytes = new byte[text.length()];
    for (int i = 0; i < bytes.length; i++) bytes[i] = (byte) text.charAt(i);
    if (random.nextInt(12) == 0) bytes[random.nextInt(bytes.length)] = (byte) random.nextInt(256);
    put(bytes);
    if (calls < CALLS) same("code() of '" + text + "'", code.code(), model.code());
  }

  private String text() {
    int m = between(2, 6);
    int n = 1 << m;
    int c = random.nextBoolean() ? 0 : between(0, Math.min(8, n / 2));
    StringBuilder b = new StringBuilder("size " + m);
    if (random.nextInt(3) > 0) {
      b.append(";keep ").append(between(1, random.nextBoolean() ? n - c : Math.min(12, n - c)));
    } else {
      b.append(";info ");
      int channel = 0;
      for (int i = 0; channel < n && b.length() < 150; i++) {
        b.append(i == 0 ? "" : ",").append(channel = Math.min(n - 1, channel + between(0, 3)));
        channel++;
      }
    }
    if (c > 0) b.append(";check ").append(c).append(' ').append(between(0, 255));
    if (random.nextBoolean()) b.append(";erase ").append(between(1, 999));
    if (random.nextBoolean()) b.append(";list ").append(between(1, 8));
    return b.toString();
  }

  private void hear() {
    byte[] bytes = new byte[random.nextInt(12) == 0 ? between(0, 64) : model.count(0)];
    int great = random.nextBoolean() ? 128 : between(1, 20);
    for (int i = 0; i < bytes.length; i++) bytes[i] = (byte) between(-great, great - 1);
    put(bytes);
    if (calls < CALLS) same("hear()", code.hear(), model.hear());
  }

  private void call(int which) {
    int a = number();
    int b = number();
    int c = number();
    int d = number();
    long l = longNumber();
    switch (which) {
      case 0: feed(new int[] {a, b, c, d, random.nextInt()}); break;
      case 1: end(a); break;
      case 2: same("code()", code.code(), model.code()); break;
      case 3: same("goodness(" + a + ")", code.goodness(a), model.goodness(a)); break;
      case 4: same("kept(" + a + ")", code.kept(a), model.kept(a)); break;
      case 5: same("word(" + l + ")", code.word(l), model.word(l)); break;
      case 6: same("check(" + l + ")", code.check(l), model.check(l)); break;
      case 7: same("systematic(" + l + ")", code.systematic(l), model.systematic(l)); break;
      case 8: same("row(" + a + ")", code.row(a), model.row(a)); break;
      case 9: if (random.nextInt(3) == 0) same("hear()", code.hear(), model.hear()); else hear(); break;
      case 10: same("tell(" + a + ", " + b + ")", code.tell(a, b), model.tell(a, b)); break;
      case 11: same("send(" + l + ", " + a + ", " + b + ")", code.send(l, a, b), model.send(l, a, b)); break;
      case 12: same("sum(" + a + ")", code.sum(a), model.sum(a)); break;
      case 13: same("distance(" + l + ")", code.distance(l), model.distance(l)); break;
      case 14: same("list(" + a + ")", code.list(a), model.list(a)); break;
      case 15: same("read()", code.read(), model.read()); break;
      default: callMore(which, a, b, c, d); break;
    }
  }

  private void callMore(int which, int a, int b, int c, int d) {
    switch (which) {
      case 16: same("told(" + a + ")", code.told(a), model.told(a)); break;
      case 17: same("path(" + a + ", " + b + ", " + c + ")", code.path(a, b, c), model.path(a, b, c)); break;
      case 18: same("message(" + a + ")", code.message(a), model.message(a)); break;
      case 19: boolean cut = random.nextBoolean(); same("work(" + a + ", " + cut + ", " + b + ")", code.work(a, cut, b), model.work(a, cut, b)); break;
      case 20: same("grown(" + a + ")", code.grown(a), model.grown(a)); break;
      case 21: same("flipped(" + a + ")", code.flipped(a), model.flipped(a)); break;
      case 22: same("sought(" + a + ")", code.sought(a), model.sought(a)); break;
      case 23: same("soughtMessage()", code.soughtMessage(), model.soughtMessage()); break;
      case 24: same("nearest(" + a + ")", code.nearest(a), model.nearest(a)); break;
      case 25: same("weights(" + a + ")", code.weights(a), model.weights(a)); break;
      case 26: same("draws(" + a + ")", code.draws(a), model.draws(a)); break;
      case 27: same("frames(" + a + ", " + b + ", " + c + ", " + d + ")", code.frames(a, b, c, d), model.frames(a, b, c, d)); break;
      case 28: same("undo()", code.undo(), model.undo()); break;
      case 29: same("image(" + a + ")", code.image(a), model.image(a)); break;
      case 30: if (random.nextInt(3) == 0) same("back(" + a + ")", code.back(a), model.back(a)); break;
      default: same("count(" + a + ")", code.count(a), model.count(a)); break;
    }
  }
}
