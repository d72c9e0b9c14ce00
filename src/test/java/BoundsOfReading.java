/**
 * Boundary cases of reading: promises 17 to 25. Where all sums but the last are 0, all channels but the last
 * are decided by 0, and the last one by the last sum: so paths, tries and beginnings can be counted by hand.
 */
final class BoundsOfReading {
  private static final int NONE = Codes.NONE;
  private static final int[] FAR = {Integer.MIN_VALUE, -2, -1, 4, 5, Integer.MAX_VALUE};

  /**
   * With 0, 2, 3 kept: channels by 0, -1 (frozen: 1 far), -1, -4: c2 and c3 are 1. Is 0 flipped, c2 is by -3, is 2
   * flipped, c3 is by -2, and is 3 flipped, c2 still is 1.
   */
  private static final int[] NEVER = {-1, -3, 2, 0};

  private final Due due;

  private BoundsOfReading(Due due) { this.due = due; }

  static void ask(Due due) {
    BoundsOfReading b = new BoundsOfReading(due);
    b.read();
    b.atFirst();
    b.frozenAndKept();
    b.sums();
    b.told();
    b.chosen();
    b.path();
    b.message();
    b.work();
    b.cutShort();
    b.grown();
    b.flipped();
    b.flippedTwelve();
    b.sought();
    b.soughtMost();
    b.soughtMessage();
  }

  /** All sums are 0 but the last. */
  private static ButterflyCode last(String text, int sum) {
    ButterflyCode x = Codes.of(text);
    x.tell(x.count(0) - 1, sum);
    return x;
  }

  /** Of eight words (channels 1 to 3) the two whose check holds, 3 and 0, are the farthest: 20 and 22. */
  private static ButterflyCode farthest() { return Codes.heard("size 2;keep 1;check 2 0;list 8", -1, -1, -10, -10); }

  /** Channels 0 to 3 by 1, 10, 2, -20: c is 0, 0, 0, 1, and the check (c3 is c1 joined with c2) fails. */
  private static ButterflyCode unlike() { return Codes.heard("size 2;info 1,2,3;check 1 1", -1, -9, -1, -9); }

  private void read() {
    due.says(17, "READING with the LIST: the MESSAGE CHOSEN");
    due.is("list 8", farthest().read(), 1);
    ButterflyCode six = farthest();
    six.list(6);
    due.is("list 6: none holds, the first", six.read(), 0);
    for (int list = 1; list <= 8; list++) {
      ButterflyCode x = Codes.of("size 6;keep 64;list " + list);
      due.is("all sums 0, list " + list, x.read(), 0);
      Codes.hear(x, Codes.all(64, -127));
      due.is("all sums -127, list " + list, x.read(), 1L << 63);
      Codes.hear(x, Codes.all(64, 127));
      due.is("all sums 127, list " + list, x.read(), 0);
      Codes.hear(x, Codes.all(64, 1));
      x.tell(63, -1);
      due.is("all bits, list " + list, x.read(), -1L);
    }
    due.says(17, "0 without a CODE");
    due.is("no code", Codes.none().read(), 0);
  }

  /** What an object read ahead, with other codes and lists, is not told of again. */
  private void atFirst() {
    due.says(Due.TERMS, "PATHS; at first one, METRIC 0, with the SUMS HEARD");
    for (int drawn = 0; drawn < 12; drawn++) {
      ButterflyCode used = Codes.none();
      int[] sizes = {6, 5, 6, 4, 3, 2, 6, 2, 5, 3};
      for (int m : sizes) {
        String text = "size " + m + ";keep " + (1 << m - 1) + ";list " + (drawn % 2 == 0 ? 8 : 1 + m);
        ButterflyCode fresh = Codes.of(text);
        Codes.tell(used, text);
        for (ButterflyCode x : new ButterflyCode[] {used, fresh}) {
          x.draws(drawn + m);
          x.send(drawn % 4, 10, 100);
        }
        String name = "draws " + drawn + ", '" + text + "'";
        due.is(name + ": read()", used.read(), fresh.read());
        due.is(name + ": work(1, true, 2)", used.work(1, true, 2), fresh.work(1, true, 2));
        due.is(name + ": work(8, true, 3)", used.work(8, true, 3), fresh.work(8, true, 3));
        due.is(name + ": told(0)", used.told(0), fresh.told(0));
        due.is(name + ": told(3)", used.told(3), fresh.told(3));
        due.is(name + ": sought(1)", used.sought(1), fresh.sought(1));
        due.is(name + ": nearest(0)", used.nearest(0), fresh.nearest(0));
      }
    }
  }

  private void frozenAndKept() {
    due.says(Due.TERMS, "FROZEN: each PATH has 0; is s below 0, its METRIC is -s more");
    for (int s : new int[] {-127, -1, 0, 1, 127}) {
      // channel 3 alone has a sum that is not 0
      ButterflyCode x = last("size 2;info 2", s);
      due.is("last sum " + s + ": told(0)", x.told(0), Math.max(0, -s));
      due.is("last sum " + s + ": path(3, 0, 1)", x.path(3, 0, 1), 0);
    }
    due.says(Due.TERMS, "the METRIC is as much more as s says otherwise (0: with 1 not)");
    for (int s : new int[] {-127, -1, 0, 1, 127}) {
      ButterflyCode x = last("size 2;info 3;list 2", s);
      due.is("last sum " + s + ": the first path's bit", x.path(3, 0, 1), s < 0 ? 1 : 0);
      due.is("last sum " + s + ": the second path's bit", x.path(3, 1, 1), s < 0 ? 0 : 1);
      due.is("last sum " + s + ": the first path's metric", x.path(3, 0, 0), 0);
      due.is("last sum " + s + ": the second path's metric", x.path(3, 1, 0), Math.abs(s));
    }
    due.says(Due.TERMS, "Of all these the L with least METRICS stay, in the order of METRICS, of like ones by the order of PATHS ahead, then 0 ahead of 1");
    ButterflyCode x = last("size 2;info 2,3;list 4", -5);
    int[][] want = {{0, 1, 0}, {0, 1, 1}, {5, 0, 0}, {5, 0, 1}};
    for (int list = 4; list >= 1; list--) {
      x.list(list);
      for (int k = 0; k < 4; k++) isPath("list " + list, x, 3, k, k < list ? want[k] : new int[] {-2, -2, -2});
    }
  }

  private void isPath(String what, ButterflyCode x, int i, int k, int... want) {
    for (int w = 0; w < 3; w++) due.is(what + ": path(" + i + ", " + k + ", " + w + ")", x.path(i, k, w), want[w]);
  }

  /** The sum that decides a channel of a code of size 2 with this one alone kept: its size, by the worse of two paths. */
  private void decides(int channel, int want, int... sums) {
    ButterflyCode x = Codes.heard("size 2;info " + channel + ";list 2", sums);
    int ahead = channel == 0 ? 0 : x.path(channel - 1, 0, 0);
    String what = "channel " + channel + " of " + java.util.Arrays.toString(sums);
    due.is(what + ", size", x.path(channel, 1, 0) - ahead, Math.abs(want));
    due.is(what + ", first bit", x.path(channel, 0, 1), want < 0 ? 1 : 0);
  }

  private void sums() {
    due.says(Due.TERMS, "the lesser of how great they are, below 0 if just one of them is");
    decides(0, 127, 127, 127, 127, 127);
    decides(0, 127, -127, -127, 127, 127);
    decides(0, -127, -127, 127, 127, 127);
    decides(0, -127, 127, 127, 127, -127);
    decides(0, 127, -127, -127, -127, -127);
    decides(0, 3, 5, 3, 7, 4);
    decides(0, -3, 5, -3, 7, 4);
    decides(0, 0, -5, 0, 7, 4);
    decides(0, 0, -5, -5, -5, 0);
    due.says(Due.TERMS, "by each PATH's left bits u (BUTTERFLIED in their NODE): b + a, if u is 0, b - a, if it is 1");
    decides(1, 8, 5, 3, 7, 4);
    decides(1, -254, 127, -127, -127, 127);
    decides(1, 0, 5, 5, 5, -5);
    decides(3, 508, 127, 127, 127, 127);
    decides(3, -508, -127, -127, -127, -127);
    decides(3, 0, 127, -127, 127, -127);
    // left sums -2, 3: bits 1, 0 (channels 1, 0); right -2 - 5 and 4 + 3: channel 2 by -7, 3 by 0
    ButterflyCode x = Codes.heard("size 2;info 0,1;list 1", 5, 3, -2, 4);
    isPath("left bits 1, 0", x, 0, 0, 0, 1, 0);
    isPath("left bits 1, 0", x, 1, 0, 0, 0, 0);
    isPath("left bits 1, 0", x, 2, 0, 7, 0, 0);
    isPath("left bits 1, 0", x, 3, 0, 7, 0, 0);
    // left sums 2, -3: bits 0, 1 (channels 1, 1); right 2 + 5 and -4 - 3: channel 2 by -7, 3 by 0
    ButterflyCode y = Codes.heard("size 2;info 0,1;list 1", 5, 3, 2, -4);
    isPath("left bits 0, 1", y, 1, 0, 0, 1, 0);
    isPath("left bits 0, 1", y, 3, 0, 7, 0, 0);
    due.says(Due.TERMS, "METRIC of a PATH is the DISTANCE of its WORD");
    for (int drawn = 0; drawn < 8; drawn++) {
      ButterflyCode z = Codes.of("size " + (2 + drawn % 5) + ";keep 4;list 8");
      z.draws(drawn);
      z.send(drawn, 30, 100);
      int n = z.count(0);
      for (int k = 0; k < 8; k++) due.is("path " + k + " of draws " + drawn, z.path(n - 1, k, 0), z.distance(z.word(z.message(k))));
    }
  }

  private void told() {
    due.says(18, "0: METRIC of the one CHOSEN, 1: whether its CHECK holds (1, 0), 2: which PATH it is (0 the first), 3: how many PATHS there are at the end");
    int[][] want = {{20, 1, 6, 8}, {20, 1, 6, 7}, {0, 0, 0, 6}, {0, 0, 0, 1}};
    int[] lists = {8, 7, 6, 1};
    for (int i = 0; i < 4; i++) {
      ButterflyCode x = farthest();
      x.list(lists[i]);
      for (int what = 0; what <= 3; what++) due.is("list " + lists[i] + ": told(" + what + ")", x.told(what), want[i][what]);
    }
    for (int kept = 1; kept <= 4; kept++) {
      for (int list = 1; list <= 8; list++) {
        ButterflyCode x = Codes.of("size 2;keep " + kept + ";list " + list);
        due.is(kept + " kept, list " + list + ": told(3)", x.told(3), Math.min(list, 1 << kept));
      }
    }
    due.says(18, "NONE for others, or without a CODE");
    for (int what : FAR) due.is("told(" + what + ")", farthest().told(what), NONE);
    for (int what = -1; what <= 4; what++) due.is("no code: told(" + what + ")", Codes.none().told(what), NONE);
  }

  private void chosen() {
    due.says(Due.TERMS, "the first PATH at the end whose CHECK holds (C 0: the first)");
    due.is("C 0: told(2)", last("size 2;info 2,3", -5).told(2), 0);
    due.is("C 0: told(1)", last("size 2;info 2,3", -5).told(1), 1);
    due.is("C 0, POLY 255: told(1)", last("size 2;info 2,3;check 0 255", -5).told(1), 1);
    ButterflyCode two = last("size 2;info 2,3;check 1 0", -5);
    due.is("of two that hold the first", two.told(2), 2);
    due.is("its message", two.read(), 0);
    due.is("another that holds, too", two.message(3), 1);
    due.says(Due.TERMS, "if none does: the first, and the CHECK fails");
    two.list(2);
    due.is("told(1)", two.told(1), 0);
    due.is("told(2)", two.told(2), 0);
    due.is("told(0)", two.told(0), 0);
    // a check of all 8 bits: one that is 0 where r is 1 fails as well
    ButterflyCode x = last("size 4;info " + Codes.channels(7, 15) + ";check 8 1", 5);
    x.list(1);
    due.is("message 0, r 0", x.told(1), 1);
    x.tell(15, -5);
    due.is("message 0, the last bit of r is 1", x.told(1), 0);
  }

  private void path() {
    due.says(19, "Of the k-th PATH (0 the first) behind CHANNEL i what 0: its METRIC, 1: its bit there, 2: which PATH it was ahead of it");
    ButterflyCode all = Codes.of("size 6;keep 64;list 8");
    isPath("all 0", all, 0, 0, 0, 0, 0);
    isPath("all 0", all, 0, 1, 0, 1, 0);
    for (int i : new int[] {2, 3, 62, 63}) {
      for (int k = 0; k < 8; k++) isPath("all 0", all, i, k, 0, k & 1, k >> 1);
    }
    ButterflyCode most = Codes.heard("size 6;keep 1;list 2", Codes.all(64, 127));
    isPath("64 of 127", most, 63, 0, 0, 0, 0);
    isPath("64 of 127", most, 63, 1, 8128, 1, 0);
    ButterflyCode least = Codes.heard("size 6;keep 1;list 2", Codes.all(64, -127));
    isPath("64 of -127", least, 63, 0, 0, 1, 0);
    isPath("64 of -127", least, 63, 1, 8128, 0, 0);
    // frozen ones stay in their order, though the second is nearer then
    ButterflyCode turned = Codes.heard("size 2;info 0;list 2", -9, -9, 3, 4);
    isPath("turned round", turned, 1, 0, 7, 0, 0);
    isPath("turned round", turned, 1, 1, 4, 0, 1);
    due.says(19, "-2: there are not so many");
    due.is("path(0, 2, 0)", all.path(0, 2, 0), -2);
    due.is("path(1, 4, 0)", all.path(1, 4, 0), -2);
    due.is("path(63, 8, 0)", all.path(63, 8, 0), -2);
    due.is("path(63, 9, 1)", all.path(63, 9, 1), -2);
    due.is("path(63, MAX, 2)", all.path(63, Integer.MAX_VALUE, 2), -2);
    due.is("frozen: path(0, 1, 0)", most.path(0, 1, 0), -2);
    due.is("frozen: path(62, 1, 0)", most.path(62, 1, 0), -2);
    all.list(1);
    due.is("list 1: path(63, 0, 0)", all.path(63, 0, 0), 0);
    due.is("list 1: path(63, 1, 0)", all.path(63, 1, 0), -2);
    due.says(19, "NONE without these (k below 0, too)");
    ButterflyCode x = Codes.of("size 2;keep 2");
    int[][] refused = {
      {4, 0, 0}, {-1, 0, 0}, {64, 0, 0}, {Integer.MIN_VALUE, 0, 0}, {Integer.MAX_VALUE, 0, 0}, {0, -1, 0}, {0, Integer.MIN_VALUE, 0},
      {0, 0, 3}, {0, 0, -1}, {0, 0, Integer.MIN_VALUE}, {0, 0, Integer.MAX_VALUE}, {0, 9, 3}, {4, 9, 0}
    };
    for (int[] r : refused) due.is("path(" + r[0] + ", " + r[1] + ", " + r[2] + ")", x.path(r[0], r[1], r[2]), NONE);
    due.is("of 64: path(64, 0, 0)", all.path(64, 0, 0), NONE);
    due.is("no code: path(0, 0, 0)", Codes.none().path(0, 0, 0), NONE);
    due.is("no code: path(0, 9, 0)", Codes.none().path(0, 9, 0), NONE);
  }

  private void message() {
    due.says(20, "The MESSAGE of the k-th PATH at the end");
    ButterflyCode all = Codes.of("size 6;keep 64;list 8");
    for (int k = 0; k < 8; k++) {
      long want = (k & 4L) << 59 | (k & 2L) << 61 | (k & 1L) << 63;
      due.is("all 0: message(" + k + ")", all.message(k), want);
    }
    due.is("a check that fails: message(0)", farthest().message(0), 0);
    due.is("the last: message(7)", farthest().message(7), 0);
    due.is("the last but one: message(6)", farthest().message(6), 1);
    due.says(20, "-1 (all bits): there is none such, or no CODE");
    for (int k : new int[] {8, 9, 64, -1, Integer.MIN_VALUE, Integer.MAX_VALUE}) due.is("message(" + k + ")", all.message(k), -1);
    ButterflyCode one = Codes.of("size 2;keep 1;list 8");
    due.is("two paths: message(1)", one.message(1), 1);
    due.is("two paths: message(2)", one.message(2), -1);
    one.list(1);
    due.is("one path: message(0)", one.message(0), 0);
    due.is("one path: message(1)", one.message(1), -1);
    due.is("no code: message(0)", Codes.none().message(0), -1);
    due.is("no code: message(-1)", Codes.none().message(-1), -1);
  }

  private void isWork(String name, ButterflyCode x, int list, boolean cut, int... want) {
    for (int i = 0; i < 4; i++) due.is(name + ": work(" + list + ", " + cut + ", " + i + ")", x.work(list, cut, i), want[i]);
  }

  /** Paths ahead of a channel, if all is kept. */
  private static int many(int channel, int list) { return channel >= 3 ? list : Math.min(list, 1 << channel); }

  private void work() {
    due.says(21, "WORK with a LIST (1 to 8), CUT SHORT or not, what 0: left sums, 1: right sums, 2: CHANNELS decided one by one, 3: METRIC of the first PATH at the end");
    isWork("size 2, list 1", Codes.of("size 2;keep 2"), 1, false, 4, 4, 4, 0);
    isWork("size 2, list 8", Codes.of("size 2;keep 2"), 8, false, 4, 5, 4, 0);
    isWork("size 2, list 1", Codes.of("size 2;keep 2"), 1, true, 3, 3, 2, 0);
    isWork("size 2, list 8", Codes.of("size 2;keep 2"), 8, true, 3, 4, 2, 0);
    due.says(Due.TERMS, "how many sums are reckoned in left NODES (once for each PATH that there is), in right ones; how many CHANNELS are decided one by one");
    for (int m = 2; m <= 6; m++) {
      ButterflyCode x = Codes.of("size " + m + ";keep " + (1 << m));
      for (int list = 1; list <= 8; list++) {
        int left = 0;
        int right = 0;
        for (int size = 1 << m; size > 1; size /= 2) {
          for (int c = 0; c < 1 << m; c += size) {
            left += size / 2 * many(c, list);
            right += size / 2 * many(c + size / 2, list);
          }
        }
        isWork("all of " + (1 << m), x, list, false, left, right, 1 << m, 0);
        // all sums are 0, so nothing is cut short
        isWork("all of " + (1 << m), x, list, true, left, right, 1 << m, 0);
      }
    }
    ButterflyCode least = Codes.heard("size 6;info 0", Codes.all(64, -127));
    due.is("the first of two: METRIC", least.work(2, false, 3), 64 * 127);
    due.says(21, "NONE without these, or a CODE");
    ButterflyCode x = Codes.of("size 2;keep 2");
    for (int list : new int[] {0, 9, -1, Integer.MIN_VALUE, Integer.MAX_VALUE}) {
      due.is("work(" + list + ", false, 0)", x.work(list, false, 0), NONE);
      due.is("work(" + list + ", true, 3)", x.work(list, true, 3), NONE);
    }
    for (int what : FAR) {
      due.is("work(1, false, " + what + ")", x.work(1, false, what), NONE);
      due.is("work(8, true, " + what + ")", x.work(8, true, what), NONE);
    }
    for (int what = 0; what <= 3; what++) {
      due.is("no code: work(1, true, " + what + ")", Codes.none().work(1, true, what), NONE);
      due.is("no code: work(8, false, " + what + ")", Codes.none().work(8, false, what), NONE);
    }
  }

  private void cutShort() {
    due.says(Due.TERMS, "a NODE of which all is FROZEN is not gone down: METRICS are more by what its sums say otherwise than 0");
    // left sums -1, -9: 10 more; right sums 0, 0 have to be gone down
    ButterflyCode frozen = Codes.heard("size 2;info 2,3", -1, -9, 1, 9);
    isWork("left is frozen", frozen, 1, true, 3, 3, 2, 10);
    isWork("left is frozen", frozen, 1, false, 4, 4, 4, 10);
    isWork("left is frozen", frozen, 2, true, 3, 4, 2, 10);
    isWork("left is frozen", frozen, 2, false, 4, 5, 4, 10);
    isWork("left is frozen", frozen, 8, true, 3, 4, 2, 10);
    isWork("left is frozen", frozen, 8, false, 4, 5, 4, 10);
    due.says(Due.TERMS, "with a LIST of 1 a NODE of which nothing is FROZEN and none of whose sums is 0: its bits are what the sums say");
    // taken: bits 1, 0; then right sums -7, 7 of frozen ones
    ButterflyCode left = Codes.heard("size 2;info 0,1", 5, 3, -2, 4);
    isWork("left is free", left, 1, true, 2, 2, 0, 7);
    isWork("left is free", left, 1, false, 4, 4, 4, 7);
    // with a list of 2 channels 0 and 1 are decided; 1, 0 and 0, 0 stay, which are 7 and 2 far then
    isWork("left is free", left, 2, true, 3, 6, 2, 7);
    for (int zero = 0; zero < 4; zero++) {
      int[] sums = {1, 1, 1, 1};
      sums[zero] = 0;
      // gone down to channel 0, whose sum is 0; channel 1 and the right half are taken
      isWork("sum " + zero + " is 0", Codes.heard("size 2;keep 4", sums), 1, true, 3, 3, 1, 0);
    }
    due.says(Due.TERMS, "Also the whole is such a NODE");
    int[] sums = Codes.all(64, -127);
    ButterflyCode whole = Codes.heard("size 6;keep 64", sums);
    isWork("the whole", whole, 1, true, 0, 0, 0, 0);
    isWork("the whole", whole, 1, false, 192, 192, 64, 0);
    due.is("not with a list of 2", whole.work(2, true, 2), 64);
    whole.tell(0, 0);
    isWork("the whole, but for a 0", whole, 1, true, 63, 63, 1, 0);
    due.says(Due.TERMS, "and one of size 1, if it is: that is not decided one by one then");
    ButterflyCode ones = Codes.heard("size 2;info 1,3", 3, 3, 3, 3);
    isWork("kept 1 and 3", ones, 1, true, 4, 4, 0, 0);
    isWork("kept 1 and 3", ones, 2, true, 5, 7, 2, 0);
    isWork("kept 1 and 3, all sums 0", Codes.of("size 2;info 1,3"), 1, true, 4, 4, 2, 0);
    due.says(Due.TERMS, "(PATHS, METRICS are the same; WORK is less.");
    for (int drawn = 0; drawn < 12; drawn++) {
      ButterflyCode x = Codes.of("size 6;info " + Codes.channels(0, 11) + ",16,17,24,25,26,27,40,41,62");
      x.draws(drawn);
      x.send(drawn, 20, 100);
      for (int list = 1; list <= 8; list++) due.is("METRIC of draws " + drawn + ", list " + list, x.work(list, true, 3), x.work(list, false, 3));
      for (int what = 0; what <= 2; what++) due.is("less WORK " + what, x.work(1, true, what) < x.work(1, false, what) ? 1 : 0, 1);
    }
  }

  private void isGrown(String name, ButterflyCode x, int... want) {
    for (int i = 0; i < 3; i++) due.is(name + ": grown(" + i + ")", x.grown(i), want[i]);
  }

  private void grown() {
    due.says(22, "GROWN what 0: the LIST, 1: whether the CHECK holds (1, 0), 2: METRIC of the one CHOSEN");
    isGrown("the seventh of 8", farthest(), 8, 1, 20);
    due.says(Due.TERMS, "LISTS of 1, 2, 4, 8 in turn, the first whose CHECK holds");
    isGrown("C 0", last("size 4;info 12,15;list 8", -5), 1, 1, 0);
    isGrown("by 1", last("size 4;info 12,15;check 1 0;list 8", 5), 1, 1, 0);
    // words 15 and 10 are 0 and 2 far; the check of 10 holds
    isGrown("by 2", Codes.heard("size 2;info 2,3;check 1 1", -1, -5, -1, -5), 2, 1, 2);
    isGrown("by 4", last("size 4;info 14,15;check 1 0", -5), 4, 1, 5);
    isGrown("by 8", last("size 4;info 13,14,15;check 1 0;list 1", -5), 8, 1, 5);
    due.says(Due.TERMS, "8, if none does");
    isGrown("by none", last("size 4;info 12,13,14,15;check 1 0", -5), 8, 0, 0);
    isGrown("by none of 64", last("size 6;info " + Codes.channels(50, 63) + ";check 1 0", -127), 8, 0, 0);
    due.says(22, "NONE for others, or without a CODE");
    for (int what : FAR) due.is("grown(" + what + ")", farthest().grown(what), NONE);
    due.is("grown(3)", farthest().grown(3), NONE);
    for (int what = -1; what <= 3; what++) due.is("no code: grown(" + what + ")", Codes.none().grown(what), NONE);
  }

  private void isFlipped(String name, ButterflyCode x, int... want) {
    for (int i = 0; i < 4; i++) due.is(name + ": flipped(" + i + ")", x.flipped(i), want[i]);
  }

  private void flipped() {
    due.says(23, "FLIPPED what 0: how many were tried (0: the CHECK held at once)");
    isFlipped("C 0", last("size 4;info 12,15", -5), 0, NONE, 0, 1);
    isFlipped("held at once", last("size 4;info 12,15;check 1 0", 5), 0, NONE, 0, 1);
    isFlipped("held at once, METRIC", last("size 4;info 12,14;check 1 0", -5), 0, NONE, 5, 1);
    due.says(23, "1: which CHANNEL (NONE: none was needed, or none helped), 2: METRIC then (of the first READING, if none helped), 3: whether the CHECK holds (1, 0)");
    isFlipped("the last of two", last("size 4;info 12,15;check 1 0", -5), 2, 15, 5, 1);
    // c2 and c3 are the check's and have to be 0
    ButterflyCode none = Codes.heard("size 2;info 0,2,3;check 2 0", NEVER);
    isFlipped("none of three helps", none, 3, NONE, 1, 0);
    Codes.hear(none, 0, 0, 0, -5);
    isFlipped("the last of three", none, 3, 3, 5, 1);
    Codes.hear(none, NEVER);
    isFlipped("none helps behind one that did", none, 3, NONE, 1, 0);
    due.says(Due.TERMS, "in the order of how great the sum was by which each was decided (the least first, of like ones the lesser CHANNEL)");
    isFlipped("2 is less sure than 1", unlike(), 1, 2, 2, 1);
    isFlipped("like ones: the lesser channel", last("size 4;info 9,11,15;check 1 1", -5), 1, 9, 0, 1);
    due.says(Due.TERMS, "that CHANNEL gets the other bit (its METRIC more, if the sum says otherwise)");
    isFlipped("a sum of 0 does not say otherwise", last("size 4;info 9,11,15;check 1 1", -127), 1, 9, 0, 1);
    isFlipped("a sum of -127 does", last("size 4;info 12,15;check 1 0", -127), 2, 15, 127, 1);
    isFlipped("whatever the LIST", last("size 4;info 12,15;check 1 0;list 8", -127), 2, 15, 127, 1);
    ButterflyCode eight = unlike();
    eight.list(8);
    eight.read();
    isFlipped("behind a READING with a LIST of 8", eight, 1, 2, 2, 1);
    eight = Codes.heard("size 2;info 2,3;check 1 0;list 8", 3, 4, 5, 6);
    eight.read();
    Codes.hear(eight, 0, 0, 0, -5);
    eight.read();
    isFlipped("other sums behind a LIST of 8", eight, 2, 3, 5, 1);
    due.says(23, "NONE for others, or without a CODE");
    for (int what : FAR) due.is("flipped(" + what + ")", unlike().flipped(what), NONE);
    for (int what = -1; what <= 4; what++) due.is("no code: flipped(" + what + ")", Codes.none().flipped(what), NONE);
  }

  private void flippedTwelve() {
    due.says(Due.TERMS, "12 are tried at most");
    // the last channel has to be 0 and is tried last, since it is the surest
    for (int kept = 2; kept <= 12; kept++) {
      ButterflyCode x = last("size 4;info " + Codes.channels(16 - kept, 15) + ";check 1 0", -5);
      isFlipped(kept + " kept", x, kept, 15, 5, 1);
    }
    for (int kept = 13; kept <= 16; kept++) {
      ButterflyCode x = last("size 4;info " + Codes.channels(16 - kept, 15) + ";check 1 0", -5);
      isFlipped(kept + " kept", x, 12, NONE, 0, 0);
    }
  }

  private void isSought(String name, ButterflyCode x, int metric, int wentOn, long message) {
    due.is(name + ": sought(0)", x.sought(0), metric);
    due.is(name + ": sought(1)", x.sought(1), wentOn);
    due.is(name + ": soughtMessage()", x.soughtMessage(), message);
  }

  private void sought() {
    due.says(24, "SOUGHT what 0: its METRIC, 1: how many BEGINNINGS went on");
    for (int m = 2; m <= 6; m++) isSought("all 0, size " + m, Codes.of("size " + m + ";keep " + (1 << m)), 0, (1 << m) + 1, 0);
    isSought("64 of -127", Codes.heard("size 6;keep 1", Codes.all(64, -127)), 0, 65, 1);
    // of none, of 1 to 63 behind a 0, which is 8128 far, of 1 to 63 behind a 1, and the whole one
    isSought("64 of -127, the first kept", Codes.heard("size 6;info 0", Codes.all(64, -127)), 63 * 127, 128, 1);
    due.says(Due.TERMS, "of like ones that of the most CHANNELS, then the one that has 0 where they first are unlike");
    // none, 0, 00, 000, 0001 (fails), 001, 0011 (fails), 0000
    isSought("like ones", last("size 2;info 2,3;check 1 0", -5), 5, 8, 0);
    // 3 by -2; behind a 1 there 5 by 0, 6 by 2, 7 by -4 or 0: 0001001 goes on ahead of 0001011, both 2 far
    isSought("like ones behind a 1", Codes.heard("size 3;info 3,5,6;check 2 1", 0, 0, 1, 1, 0, 0, -1, -1), 2, 12, 1);
    // this one was reckoned by the model
    isSought("many like ones", Codes.heard("size 3;info 0,1,3,4,6,7;check 3 0", 0, 1, 1, -1, 0, 1, 1, 0), 1, 18, 0);
    due.says(Due.TERMS, "a whole one whose CHECK holds is SOUGHT (one whose CHECK fails is dropped)");
    // none, 0, 00, 000, 0001 (fails), 001, 0011 holds
    isSought("the second holds", last("size 2;info 2,3;check 1 1", -5), 0, 7, 1);
    due.says(24, "-3: UNKNOWN; NONE for others, or without a CODE");
    ButterflyCode unknown = unknown();
    due.is("unknown: sought(0)", unknown.sought(0), -3);
    due.is("unknown: sought(1)", unknown.sought(1), -3);
    for (int what : FAR) due.is("sought(" + what + ")", unlike().sought(what), NONE);
    for (int what : FAR) due.is("unknown: sought(" + what + ")", unknown.sought(what), NONE);
    due.is("sought(2)", unlike().sought(2), NONE);
    due.is("unknown: sought(2)", unknown.sought(2), NONE);
    for (int what = -1; what <= 2; what++) due.is("no code: sought(" + what + ")", Codes.none().sought(what), NONE);
  }

  /**
   * The sum of bit 7 alone is not 0, so a beginning has METRIC 0 if this bit of its word is 1: the first word
   * along (0 ahead of 1) that has it and whose check holds is sought. It is that of message 32: channels 5, 7,
   * 8, 9, 11, the 372nd (of channels 0 to 13; 0 the first). With T of 372, which has five 1s, 2 * T - 5 and
   * 15 go on of up to 14 channels, T and 1 of 15 (14 is frozen) and as many whole ones: 1500.
   */
  private static ButterflyCode most() {
    ButterflyCode x = Codes.of("size 4;info " + Codes.channels(0, 13) + ",15;check 8 116");
    x.tell(7, -1);
    return x;
  }

  /**
   * In the same way of channels 21 to 29, of bit 23, and of message 1: channels 21, 23, 24, 25, the 368th
   * (four 1s), and 21 frozen ones ahead: 2 * T - 4 and 31, T and 1, T and 1: 1501.
   */
  private static ButterflyCode unknown() {
    ButterflyCode x = Codes.of("size 5;info " + Codes.channels(21, 29) + ",31;check 8 112");
    x.tell(23, -1);
    return x;
  }

  private void soughtMost() {
    due.says(Due.TERMS, "1500 go on at most (whole ones count, too): would one more have to, it is UNKNOWN");
    isSought("1500", most(), 0, 1500, 32);
    isSought("1501", unknown(), -3, -3, -1);
    ButterflyCode far = last("size 6;keep 63;check 1 0", -127);
    isSought("never", far, -3, -3, -1);
    // what was found ahead is not told again
    ButterflyCode x = Codes.of("size 6;keep 63;check 1 0");
    isSought("found", x, 0, 65, 0);
    x.tell(63, -127);
    isSought("then not", x, -3, -3, -1);
  }

  private void soughtMessage() {
    due.says(25, "The MESSAGE SOUGHT");
    due.is("the nearest whose check holds", farthest().soughtMessage(), 1);
    ButterflyCode x = Codes.heard("size 6;keep 64", Codes.all(64, 1));
    x.tell(63, -1);
    due.is("all bits", x.soughtMessage(), -1L);
    due.is("all bits: sought(0)", x.sought(0), 0);
    due.says(25, "-1 (all bits): UNKNOWN, or without a CODE");
    due.is("unknown", unknown().soughtMessage(), -1);
    due.is("no code", Codes.none().soughtMessage(), -1);
  }
}
