/** Boundary cases of all words and of frames: promises 26, 27 and 29. */
final class BoundsOfWords {
  private static final int NONE = Codes.NONE;
  private final Due due;

  private BoundsOfWords(Due due) { this.due = due; }

  static void ask(Due due) {
    BoundsOfWords b = new BoundsOfWords(due);
    b.nearest();
    b.weights();
    b.frames();
    b.wrongFrames();
  }

  private void isNearest(String name, ButterflyCode x, int message, int distance) {
    due.is(name + ": nearest(0)", x.nearest(0), message);
    due.is(name + ": nearest(1)", x.nearest(1), distance);
  }

  private void nearest() {
    due.says(26, "NEAREST what 0: the MESSAGE, 1: its DISTANCE");
    isNearest("64 of -127", Codes.heard("size 6;keep 1", Codes.all(64, -127)), 1, 0);
    isNearest("64 of 127", Codes.heard("size 6;keep 1", Codes.all(64, 127)), 0, 0);
    isNearest("64 of -127, the first kept", Codes.heard("size 6;info 0", Codes.all(64, -127)), 1, 63 * 127);
    // words whose check holds: 0 and 3
    isNearest("with a check", Codes.heard("size 2;keep 1;check 2 0", -1, -1, -10, -10), 1, 20);
    isNearest("the last message of 4", Codes.heard("size 2;keep 2", 1, -1, 1, -1), 3, 0);
    due.says(Due.TERMS, "of all MESSAGES the one of the least DISTANCE, of like ones the least");
    isNearest("all sums 0", Codes.of("size 4;keep 12"), 0, 0);
    // words of messages 0 to 3: 0, 5, 15, 10
    isNearest("2 and 3 are like", Codes.heard("size 2;keep 2", 0, -5, 0, -5), 2, 0);
    isNearest("1 and 2 are like", Codes.heard("size 2;keep 2", -5, 0, -5, 0), 1, 0);
    isNearest("all are like", Codes.heard("size 2;keep 2", -5, -5, 5, 5), 0, 10);
    ButterflyCode again = Codes.heard("size 2;keep 2", -127, -127, -127, -127);
    isNearest("15", again, 2, 0);
    Codes.hear(again, 1, 1, 1, 1);
    isNearest("0 behind it", again, 0, 0);
    Codes.hear(again, 1, 1, -1, 1);
    isNearest("0 again, 1 far", again, 0, 1);
    due.says(Due.TERMS, "(Where K is at most 12.)");
    ButterflyCode twelve = Codes.of("size 4;keep 12");
    twelve.send(4095, 60, 0);
    isNearest("K of 12", twelve, 4095, 0);
    twelve.send(2048, 1, 0);
    isNearest("K of 12, bit 11", twelve, 2048, 0);
    ButterflyCode checked = Codes.of("size 6;keep 12;check 8 255");
    checked.send(4095, 100, 0);
    isNearest("K of 12, C of 8", checked, 4095, 0);
    due.says(26, "-3: K is above 12");
    ButterflyCode thirteen = Codes.of("size 4;keep 13");
    isNearest("K of 13", thirteen, -3, -3);
    isNearest("K of 13 by info", Codes.of("size 4;info " + Codes.channels(0, 12)), -3, -3);
    isNearest("K of 64", Codes.of("size 6;keep 64"), -3, -3);
    isNearest("13 by info less C of 1", Codes.of("size 4;info " + Codes.channels(0, 12) + ";check 1 0"), 0, 0);
    due.says(26, "NONE for others, or without a CODE");
    for (int what : new int[] {2, 3, -1, -3, Integer.MIN_VALUE, Integer.MAX_VALUE}) {
      due.is("nearest(" + what + ")", twelve.nearest(what), NONE);
      due.is("K of 13: nearest(" + what + ")", thirteen.nearest(what), NONE);
    }
    for (int what = -1; what <= 2; what++) due.is("no code: nearest(" + what + ")", Codes.none().nearest(what), NONE);
  }

  private void isWeights(String text, int... want) {
    ButterflyCode x = Codes.of(text);
    for (int w = 0; w < want.length; w++) due.is("'" + text + "': weights(" + w + ")", x.weights(w), want[w]);
  }

  private void weights() {
    due.says(27, "WEIGHTS w (0 to N)");
    isWeights("size 2;keep 1", 1, 0, 0, 0, 1);
    isWeights("size 2;keep 2", 1, 0, 2, 0, 1);
    isWeights("size 2;keep 4", 1, 4, 6, 4, 1);
    isWeights("size 2;info 0", 1, 1, 0, 0, 0);
    isWeights("size 2;keep 1;check 2 0", 1, 0, 1, 0, 0);
    isWeights("size 3;keep 8", 1, 8, 28, 56, 70, 56, 28, 8, 1);
    ButterflyCode great = Codes.of("size 6;keep 1");
    due.is("of 64: weights(64)", great.weights(64), 1);
    due.is("of 64: weights(63)", great.weights(63), 0);
    due.is("of 64: weights(0)", great.weights(0), 1);
    ButterflyCode twelve = Codes.of("size 4;info " + Codes.channels(0, 11));
    int all = 0;
    for (int w = 0; w <= 16; w++) all += twelve.weights(w);
    due.is("K of 12: all weights", all, 4096);
    due.says(27, "-3: K is above 12");
    ButterflyCode thirteen = Codes.of("size 4;keep 13");
    for (int w = 0; w <= 16; w++) due.is("K of 13: weights(" + w + ")", thirteen.weights(w), -3);
    due.is("K of 64: weights(64)", Codes.of("size 6;keep 64").weights(64), -3);
    due.is("13 by info less C of 1", Codes.of("size 4;info " + Codes.channels(0, 12) + ";check 1 0").weights(0), 1);
    due.says(27, "NONE for others, or without a CODE");
    for (int w : new int[] {17, 64, -1, Integer.MIN_VALUE, Integer.MAX_VALUE}) {
      due.is("weights(" + w + ")", twelve.weights(w), NONE);
      due.is("K of 13: weights(" + w + ")", thirteen.weights(w), NONE);
    }
    due.is("of 4: weights(5)", Codes.of("size 2;keep 1").weights(5), NONE);
    due.is("of 64: weights(65)", great.weights(65), NONE);
    for (int w = -1; w <= 4; w++) due.is("no code: weights(" + w + ")", Codes.none().weights(w), NONE);
  }

  private void frames() {
    due.says(29, "FRAMES n (1 to 40) with A, B, by the LIST (SUMS, x stay as they are)");
    // without A and B all sums are 0 and 0 is read: wrong are the messages that are not 0
    int[][] drawn = {{0, 0, 9, 27, 28}, {5, 1, 9, 33, 33}, {2147483647, 1, 9, 31, 31}};
    int[] many = {1, 10, 39, 40};
    for (int[] d : drawn) {
      ButterflyCode x = Codes.heard("size 2;keep 2", 1, -2, 3, -4);
      x.draws(d[0]);
      for (int i = 0; i < 4; i++) due.is("from " + d[0] + ": frames(" + many[i] + ", 0, 0, 0)", x.frames(many[i], 0, 0, 0), d[i + 1]);
      due.is("x", x.count(7), d[0]);
      due.is("acts", x.count(6), 2);
      int[] sums = {1, -2, 3, -4};
      for (int i = 0; i < 4; i++) due.is("sum(" + i + ")", x.sum(i), sums[i]);
    }
    ButterflyCode one = Codes.of("size 2;keep 1");
    for (int i = 0; i < 4; i++) due.is("K of 1: frames(" + many[i] + ", 0, 0, 0)", one.frames(many[i], 0, 0, 0), new int[] {0, 6, 18, 18}[i]);
    due.is("A of 100 without noise", one.frames(40, 100, 0, 0), 0);
    due.is("A of 1 without noise", one.frames(40, 1, 0, 0), 0);
    due.is("noise that is less than A", one.frames(40, 100, 99, 0), 0);
    due.says(29, "NONE without these, or a CODE");
    int[][] refused = {
      {0, 1, 1, 0}, {41, 1, 1, 0}, {-1, 1, 1, 0}, {Integer.MIN_VALUE, 1, 1, 0}, {Integer.MAX_VALUE, 1, 1, 0}, {1, -1, 1, 0}, {1, 101, 1, 0},
      {1, Integer.MIN_VALUE, 1, 0}, {1, Integer.MAX_VALUE, 1, 1}, {1, 1, -1, 0}, {1, 1, 101, 0}, {1, 1, Integer.MIN_VALUE, 1},
      {1, 1, Integer.MAX_VALUE, 0}, {1, 1, 1, -1}, {1, 1, 1, 2}, {1, 1, 1, Integer.MIN_VALUE}, {1, 1, 1, Integer.MAX_VALUE}
    };
    for (int[] r : refused) {
      due.is("frames(" + r[0] + ", " + r[1] + ", " + r[2] + ", " + r[3] + ")", one.frames(r[0], r[1], r[2], r[3]), NONE);
    }
    due.is("x", one.count(7), 0);
    ButterflyCode none = Codes.none();
    due.is("no code: frames(1, 0, 0, 0)", none.frames(1, 0, 0, 0), NONE);
    due.is("no code: frames(40, 100, 100, 1)", none.frames(40, 100, 100, 1), NONE);
    due.is("no code: x", none.count(7), 0);
  }

  /** What is due by the calls of the other promises: each frame drawn by hand, sent and read. */
  private int[] byHand(String text, int drawn, int n, int a, int b) {
    ButterflyCode x = Codes.of(text);
    int k = x.count(1);
    long at = drawn;
    int wrong = 0;
    int unseen = 0;
    for (int f = 0; f < n; f++) {
      long message = 0;
      for (int i = 0; i < k; i++) {
        at = (at * 1103515245L + 12345L) % 2147483648L;
        message |= at / 65536 % 2 << i;
      }
      x.draws((int) at);
      x.send(message, a, b);
      at = x.count(7);
      if (x.read() != message) {
        wrong++;
        unseen += x.told(1);
      }
    }
    return new int[] {wrong, unseen};
  }

  private void wrongFrames() {
    due.says(Due.TERMS, "how many are read wrong (another MESSAGE CHOSEN), how many of these with a CHECK that holds (or C 0)");
    String[] texts = {"size 3;keep 2;list 1", "size 3;keep 2;check 1 1;list 1", "size 4;keep 4;check 3 3;list 8", "size 5;keep 3;check 8 29"};
    int[][] seen = new int[4][];
    for (int i = 0; i < 4; i++) {
      seen[i] = byHand(texts[i], 2147483647, 40, 20, 100);
      ButterflyCode x = Codes.of(texts[i]);
      x.draws(2147483647);
      due.is("'" + texts[i] + "': wrong", x.frames(40, 20, 100, 0), seen[i][0]);
      due.is("'" + texts[i] + "': of these with a check that holds", x.frames(40, 20, 100, 1), seen[i][1]);
    }
    due.is("some are wrong", seen[0][0] > 0 ? 1 : 0, 1);
    due.is("C 0: all of these", seen[0][1], seen[0][0]);
    due.is("C 1: not all of these", seen[1][1] < seen[1][0] && seen[1][1] > 0 ? 1 : 0, 1);
    // without A and B 0 is read, and its check holds
    ButterflyCode x = Codes.of("size 2;keep 2;check 2 3");
    due.is("all sums 0: those with a check that holds", x.frames(40, 0, 0, 1), x.frames(40, 0, 0, 0));
  }
}
