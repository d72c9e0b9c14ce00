/** Boundary cases of a new object, acts, images and counts: promises 1 and 30 to 33; and what is refused changes nothing. */
final class BoundsOfActs {
  private static final int NONE = Codes.NONE;
  private static final int NO_SUM = Codes.NO_SUM;
  private static final int MIN = Integer.MIN_VALUE;
  private static final int MAX = Integer.MAX_VALUE;
  private final Due due;

  private BoundsOfActs(Due due) { this.due = due; }

  static void ask(Due due) {
    BoundsOfActs b = new BoundsOfActs(due);
    b.newObject();
    b.undo();
    b.undoTwelve();
    b.undoEachKind();
    b.image();
    b.back();
    b.count();
    b.refused();
    b.questions();
    b.withoutCode();
  }

  /** All that needs a code, asked without one. */
  private void noCode(String name, ButterflyCode x) {
    due.is(name + ": goodness(0)", x.goodness(0), NONE);
    due.is(name + ": kept(0)", x.kept(0), NONE);
    due.is(name + ": word(0)", x.word(0), 0);
    due.is(name + ": word(1)", x.word(1), 0);
    due.is(name + ": check(0)", x.check(0), NONE);
    due.is(name + ": systematic(0)", x.systematic(0), -1);
    due.is(name + ": row(0)", x.row(0), NONE);
    due.is(name + ": row(NONE)", x.row(NONE), NONE);
    due.is(name + ": hear()", x.hear(), NONE);
    due.is(name + ": tell(0, 0)", x.tell(0, 0), NO_SUM);
    due.is(name + ": send(0, 0, 0)", x.send(0, 0, 0), NONE);
    due.is(name + ": sum(0)", x.sum(0), NO_SUM);
    due.is(name + ": distance(0)", x.distance(0), NONE);
    due.is(name + ": list(1)", x.list(1), NONE);
    due.is(name + ": read()", x.read(), 0);
    due.is(name + ": told(0)", x.told(0), NONE);
    due.is(name + ": path(0, 0, 0)", x.path(0, 0, 0), NONE);
    due.is(name + ": message(0)", x.message(0), -1);
    due.is(name + ": work(1, false, 0)", x.work(1, false, 0), NONE);
    due.is(name + ": work(1, true, 0)", x.work(1, true, 0), NONE);
    due.is(name + ": grown(0)", x.grown(0), NONE);
    due.is(name + ": flipped(0)", x.flipped(0), NONE);
    due.is(name + ": sought(0)", x.sought(0), NONE);
    due.is(name + ": soughtMessage()", x.soughtMessage(), -1);
    due.is(name + ": nearest(0)", x.nearest(0), NONE);
    due.is(name + ": weights(0)", x.weights(0), NONE);
    due.is(name + ": frames(1, 0, 0, 0)", x.frames(1, 0, 0, 0), NONE);
    for (int i : new int[] {0, 1, 2, 3, 4, 5, 9}) due.is(name + ": count(" + i + ")", x.count(i), 0);
  }

  private void newObject() {
    due.says(1, "No CODE.");
    ButterflyCode x = Codes.none();
    noCode("new", x);
    for (int i = 0; i <= 9; i++) due.is("new: count(" + i + ")", x.count(i), 0);
    due.is("new: undo()", x.undo(), NONE);
    due.is("new: back(0)", x.back(0), NONE);
    due.is("new: back(1)", x.back(1), NONE);
    due.is("new: code()", x.code(), -3);
    due.is("new: end(0)", x.end(0), 0);
    due.is("new: end(1)", x.end(1), NONE);
  }

  private void undo() {
    due.says(30, "The last ACT is UNDONE: how many more can be");
    ButterflyCode x = Codes.of("size 2;keep 1");
    x.tell(0, 1);
    x.tell(0, 2);
    for (int i = 2; i >= 0; i--) {
      due.is("undo()", x.undo(), i);
      due.is("count(6)", x.count(6), i);
    }
    due.is("N", x.count(0), 0);
    due.says(30, "NONE, and nothing happens, if none can");
    due.is("undo()", x.undo(), NONE);
    noCode("all undone", x);
    due.is("count(6)", x.count(6), 0);
    Codes.tell(x, "size 3;keep 2");
    due.is("acts go on", x.count(6), 1);
    due.is("and are undone", x.undo(), 0);
  }

  /** The code and tell(0, 1), tell(0, 2) ..: so many acts in all. */
  private static ButterflyCode acts(int many) {
    ButterflyCode x = Codes.of("size 2;keep 1");
    for (int i = 1; i < many; i++) x.tell(0, i);
    return x;
  }

  private void undoTwelve() {
    due.says(Due.TERMS, "The last 12 can be UNDONE, the last first");
    for (int many : new int[] {11, 12}) {
      ButterflyCode x = acts(many);
      due.is(many + " acts: count(6)", x.count(6), many);
      for (int i = many - 1; i >= 1; i--) {
        due.is(many + " acts: undo()", x.undo(), i);
        due.is(many + " acts: sum(0)", x.sum(0), i - 1);
      }
      due.is(many + " acts: undo() of the code", x.undo(), 0);
      due.is(many + " acts: N", x.count(0), 0);
      due.is(many + " acts: no more", x.undo(), NONE);
    }
    for (int many : new int[] {13, 14, 24, 25, 40}) {
      ButterflyCode x = acts(many);
      due.is(many + " acts: count(6)", x.count(6), 12);
      for (int i = 11; i >= 0; i--) {
        due.is(many + " acts: undo()", x.undo(), i);
        due.is(many + " acts: sum(0)", x.sum(0), many - 1 - (12 - i));
      }
      due.is(many + " acts: the one before them", x.undo(), NONE);
      due.is(many + " acts: sum(0) stays", x.sum(0), many - 13);
      due.is(many + " acts: N stays", x.count(0), 4);
    }
    ButterflyCode x = acts(20);
    for (int i = 0; i < 5; i++) x.undo();
    for (int i = 0; i < 6; i++) x.tell(1, i);
    due.is("five undone, six told: count(6)", x.count(6), 12);
    for (int i = 0; i < 6; i++) x.undo();
    due.is("these are undone: sum(0)", x.sum(0), 14);
    due.is("count(6)", x.count(6), 6);
  }

  private void undoEachKind() {
    due.says(Due.TERMS, "ACTS: a CODE is told (all SUMS 0), SENT, HEARD by the TAPE, a SUM told, a LIST told");
    ButterflyCode x = Codes.heard("size 3;keep 2;check 1 1;erase 300;list 2", 1, 2, 3, 4, 5, 6, 7, 8);
    String before = counts(x);
    Codes.tell(x, "size 2;keep 1");
    due.is("a code is an act", x.count(6), 3);
    due.is("undo()", x.undo(), 2);
    due.same("a code is undone", counts(x), before);
    due.is("its sums, too", x.sum(7), 8);
    due.is("what is kept, too", x.kept(5), 0);
    x.send(1, 50, 50);
    due.is("sent is an act", x.count(6), 3);
    x.undo();
    due.is("undone: sum(7)", x.sum(7), 8);
    Codes.hear(x, Codes.all(8, -9));
    due.is("heard is an act", x.count(6), 3);
    x.undo();
    due.is("undone: sum(0)", x.sum(0), 1);
    x.tell(0, 99);
    due.is("a sum told is an act", x.count(6), 3);
    x.undo();
    due.is("undone: sum(0)", x.sum(0), 1);
    x.tell(0, 1);
    due.is("a sum told as it was is an act", x.count(6), 3);
    x.undo();
    x.list(8);
    due.is("a list told is an act", x.count(6), 3);
    x.undo();
    due.is("undone: the list", x.count(5), 2);
    x.draws(5);
    x.image(0);
    x.feed(0, 0, 0, 0, 0);
    x.end(3);
    x.read();
    due.is("others are none", x.count(6), 2);
    x.undo();
    x.undo();
    due.is("undone: N", x.count(0), 0);
  }

  private static String counts(ButterflyCode x) {
    StringBuilder b = new StringBuilder();
    for (int i = 0; i <= 9; i++) if (i != 7) b.append(x.count(i)).append(' ');
    return b.toString();
  }

  private void image() {
    due.says(31, "An IMAGE is made: N (0 without a CODE)");
    ButterflyCode x = Codes.none();
    due.is("no code: image(0)", x.image(0), 0);
    due.is("no code: image(1)", x.image(1), 0);
    Codes.tell(x, "size 2;keep 1");
    due.is("image(0)", x.image(0), 4);
    Codes.tell(x, "size 6;keep 1");
    due.is("image(1)", x.image(1), 64);
    due.is("it is no act", x.count(6), 2);
    due.is("back(0)", x.back(0), 4);
    due.is("back(1)", x.back(1), 64);
    due.says(31, "NONE without that number");
    for (int k : new int[] {2, -1, MIN, MAX}) due.is("image(" + k + ")", x.image(k), NONE);
  }

  private void back() {
    due.says(32, "All is as in an IMAGE (nothing can be UNDONE then): N");
    ButterflyCode x = Codes.none();
    x.image(0);
    Codes.tell(x, "size 3;keep 2;check 2 3;erase 300;list 2");
    x.tell(7, -8);
    x.image(1);
    x.list(3);
    x.tell(7, 5);
    due.is("back(1)", x.back(1), 8);
    int[] want = {8, 2, 2, 3, 300, 2, 0, 0, 0, 7};
    for (int i = 0; i <= 9; i++) due.is("count(" + i + ")", x.count(i), want[i]);
    due.is("sum(7)", x.sum(7), -8);
    due.is("kept(7)", x.kept(7), 3);
    due.is("undo()", x.undo(), NONE);
    x.tell(7, 100);
    due.is("back(1) again", x.back(1), 8);
    due.is("the image stayed", x.sum(7), -8);
    x.tell(7, 1);
    due.is("one can be undone", x.undo(), 0);
    due.is("back(0)", x.back(0), 0);
    noCode("an image of no code", x);
    due.is("undo()", x.undo(), NONE);
    due.is("back(1) from no code", x.back(1), 8);
    x.tell(0, 3);
    x.image(1);
    x.back(0);
    x.back(1);
    due.is("an image made anew", x.sum(0), 3);
    due.says(Due.TERMS, "IMAGES 0 and 1: all but x, the TAPE");
    x.draws(99);
    x.feed(1, 2, 3, 4, 5);
    x.back(1);
    due.is("x", x.count(7), 99);
    due.is("the tape", x.count(8), 20);
    due.says(32, "NONE, and nothing happens, if it was never made, or without that number");
    ButterflyCode y = acts(5);
    due.is("never made: back(0)", y.back(0), NONE);
    due.is("never made: back(1)", y.back(1), NONE);
    y.image(1);
    due.is("the other made: back(0)", y.back(0), NONE);
    for (int k : new int[] {2, -1, MIN, MAX}) due.is("back(" + k + ")", y.back(k), NONE);
    due.is("acts", y.count(6), 5);
    due.is("sum(0)", y.sum(0), 4);
    ButterflyCode z = acts(5);
    z.image(0);
    due.is("the other made: back(1)", z.back(1), NONE);
  }

  private void count() {
    due.says(33, "What 0: N, 1: K, 2: C, 3: POLY, 4: E, 5: the LIST, 6: ACTS that can be UNDONE, 7: x, 8: bytes of the TAPE, 9: SUMS that are 0");
    ButterflyCode x = Codes.of("size 6;keep 56;check 8 255;erase 999;list 8");
    x.tell(63, -1);
    x.draws(MAX);
    for (int i = 0; i < 10; i++) x.feed(0, 0, 0, 0, 0);
    int[] most = {64, 56, 8, 255, 999, 8, 2, MAX, 200, 63};
    for (int i = 0; i <= 9; i++) due.is("the most: count(" + i + ")", x.count(i), most[i]);
    ButterflyCode y = Codes.of("size 2;keep 1;check 0 0;erase 1;list 1");
    int[] least = {4, 1, 0, 0, 1, 1, 1, 0, 0, 4};
    for (int i = 0; i <= 9; i++) due.is("the least: count(" + i + ")", y.count(i), least[i]);
    Codes.hear(y, 127, -127, 1, -1);
    due.is("none is 0: count(9)", y.count(9), 0);
    due.says(33, "(0 to 5, 9: 0 without a CODE)");
    ButterflyCode none = Codes.none();
    none.draws(7);
    none.feed(0, 0, 0, 0, 0);
    int[] without = {0, 0, 0, 0, 0, 0, 0, 7, 20, 0};
    for (int i = 0; i <= 9; i++) due.is("no code: count(" + i + ")", none.count(i), without[i]);
    due.says(33, "NONE for others");
    for (int i : new int[] {10, 11, -1, MIN, MAX}) {
      due.is("count(" + i + ")", x.count(i), NONE);
      due.is("no code: count(" + i + ")", none.count(i), NONE);
    }
  }

  /** A code, sums, a list, x, acts, both images and a tape of 30 bytes; the last image has a code of 64 to hear it by. */
  private static ButterflyCode rich() {
    ButterflyCode x = Codes.of("size 6;keep 20;check 8 29;list 8");
    x.send(1000, 40, 60);
    x.image(1);
    Codes.tell(x, "size 3;keep 2;check 1 1;list 2");
    x.tell(3, -77);
    x.image(0);
    x.send(1, 20, 30);
    x.list(3);
    x.tell(7, 5);
    x.draws(77);
    Codes.put(x, "abcdefghijklmnopqrstuvwxyz0123");
    return x;
  }

  /** The same with a full tape. */
  private static ButterflyCode full() {
    ButterflyCode x = rich();
    Codes.put(x, "0123456789".repeat(20));
    return x;
  }

  private static ButterflyCode bare() {
    ButterflyCode x = Codes.none();
    x.draws(77);
    Codes.put(x, "abcdefghijklmnopqrstuvwxyz0123");
    return x;
  }

  private void unchanged(String what, java.util.function.Consumer<ButterflyCode> call) { Twin.unchanged(due, what, BoundsOfActs::rich, call); }

  private void refused() {
    due.says(2, "none comes");
    Twin.unchanged(due, "a feed to 220", BoundsOfActs::full, x -> x.feed(1, 2, 3, 4, 5));
    due.says(3, "nothing happens");
    for (int n : new int[] {31, -1, MIN, MAX}) unchanged("end(" + n + ")", x -> x.end(n));
    Twin.unchanged(due, "end(201)", BoundsOfActs::full, x -> x.end(201));
    due.says(4, "but for the TAPE nothing happens");
    for (String text : new String[] {"", "size 7", "size 3;keep 9", "size 2;keep 1;check 8 255;erase 1;list 9", "size 6;info 0,0"}) {
      Twin.unchanged(due, "'" + text + "'", () -> { ButterflyCode x = rich(); x.end(0); return x; }, x -> Codes.tell(x, text));
    }
    due.says(11, "nothing happens (the TAPE stays, too)");
    unchanged("hear() of 30", ButterflyCode::hear);
    Twin.unchanged(due, "hear() of 200", BoundsOfActs::full, ButterflyCode::hear);
    due.says(12, "nothing happens, without these");
    int[][] tells = {{8, 0}, {-1, 0}, {64, 0}, {0, 128}, {0, -128}, {MIN, 0}, {MAX, 0}, {0, MIN}, {0, MAX}};
    for (int[] t : tells) unchanged("tell(" + t[0] + ", " + t[1] + ")", x -> x.tell(t[0], t[1]));
    due.says(13, "nothing happens, without a CODE, bits beyond K, or for other A, B");
    long[][] sends = {{4, 1, 1}, {-1, 1, 1}, {1, -1, 1}, {1, 101, 1}, {1, 1, -1}, {1, 1, 101}, {1, MIN, 1}, {1, 1, MAX}};
    for (long[] s : sends) unchanged("send(" + s[0] + ", " + s[1] + ", " + s[2] + ")", x -> x.send(s[0], (int) s[1], (int) s[2]));
    due.says(16, "nothing happens, without a CODE, for others, or if it is so");
    for (int n : new int[] {0, 9, 3, -1, MIN, MAX}) unchanged("list(" + n + ")", x -> x.list(n));
    due.says(28, "nothing happens, below 0");
    for (int n : new int[] {-1, MIN}) unchanged("draws(" + n + ")", x -> x.draws(n));
    due.says(31, "NONE without that number");
    for (int k : new int[] {2, -1, MIN, MAX}) unchanged("image(" + k + ")", x -> x.image(k));
    due.says(32, "nothing happens, if it was never made, or without that number");
    for (int k : new int[] {2, -1, MIN, MAX}) unchanged("back(" + k + ")", x -> x.back(k));
  }

  private void questions() {
    due.says(29, "(SUMS, x stay as they are)");
    unchanged("frames(40, 20, 100, 0)", x -> x.frames(40, 20, 100, 0));
    unchanged("frames(1, 100, 100, 1)", x -> x.frames(1, 100, 100, 1));
    for (int n : new int[] {0, 41}) unchanged("frames(" + n + ", 1, 1, 0)", x -> x.frames(n, 1, 1, 0));
    due.says(17, "READING with the LIST");
    unchanged("read()", ButterflyCode::read);
    due.says(22, "GROWN what 0: the LIST");
    for (int w = -1; w <= 3; w++) { int what = w; unchanged("grown(" + w + ")", x -> x.grown(what)); }
    due.says(23, "FLIPPED what 0");
    for (int w = -1; w <= 4; w++) { int what = w; unchanged("flipped(" + w + ")", x -> x.flipped(what)); }
    due.says(21, "WORK with a LIST (1 to 8)");
    for (int l = 0; l <= 9; l++) { int list = l; unchanged("work(" + l + ", true, 0)", x -> x.work(list, true, 0)); }
    due.says(24, "SOUGHT what 0");
    for (int w = -1; w <= 2; w++) { int what = w; unchanged("sought(" + w + ")", x -> x.sought(what)); }
    unchanged("soughtMessage()", ButterflyCode::soughtMessage);
    due.says(26, "NEAREST what 0");
    for (int w = -1; w <= 2; w++) { int what = w; unchanged("nearest(" + w + ")", x -> x.nearest(what)); }
    unchanged("others", x -> {
      x.goodness(8); x.kept(0); x.word(-1); x.word(3); x.check(3); x.systematic(3); x.row(-1); x.sum(9); x.distance(-1);
      x.told(2); x.path(7, 2, 2); x.message(1); x.weights(4); x.count(9); x.count(10);
    });
  }

  private void withoutCode() {
    due.says(13, "without a CODE");
    Twin.unchanged(due, "all that needs a code", BoundsOfActs::bare, x -> noCode("bare", x));
    Twin.unchanged(due, "undo()", BoundsOfActs::bare, ButterflyCode::undo);
    Twin.unchanged(due, "back(0)", BoundsOfActs::bare, x -> x.back(0));
    Twin.unchanged(due, "a fault", () -> { ButterflyCode x = bare(); x.end(0); return x; }, x -> Codes.tell(x, "size 2"));
  }
}
