/**
 * Every method with extreme numbers in many states: none may throw, and a question changes nothing. No object
 * is called more than 512 times, since nothing is promised of it then.
 */
public final class EdgesTest {
  private static final int[] NUMBERS = {
    Integer.MIN_VALUE, Integer.MIN_VALUE + 1, -1000, -129, -128, -127, -2, -1, 0, 1, 2, 3, 7, 8, 9, 12, 13, 40, 41,
    63, 64, 65, 100, 101, 127, 128, 200, 201, Integer.MAX_VALUE - 1, Integer.MAX_VALUE
  };
  private static final long[] LONGS = {
    0L, 1L, -1L, 2L, Long.MIN_VALUE, Long.MAX_VALUE, 0x5555555555555555L, 1L << 32, 1L << 31, 4095L, 4096L
  };
  private static final String[] TEXTS = {
    "", "size 2;keep 1", "size 2;keep 4", "size 2;info 0", "size 2;info 0,1,2,3;check 3 255;list 1", "size 3;info 0,3,5",
    "size 4;keep 12;list 8", "size 6;keep 64;list 8", "size 6;keep 56;check 8 255;list 8", "size 6;keep 1;check 8 7;erase 999",
    "size 5;keep 13;check 8 213;erase 1;list 3", "size 6;info 63", "size 6;info 0;list 8"
  };
  private static int wrong = 0;
  private static int calls = 0;

  public static void main(String[] args) {
    for (String text : TEXTS) {
      for (int loud = 0; loud < 4; loud++) {
        try {
          ask(text, loud);
        } catch (RuntimeException | Error e) {
          wrong++;
          System.out.println("'" + text + "', " + loud + " threw " + e);
          e.printStackTrace(System.out);
        }
      }
    }
    System.out.println("EdgesTest: " + calls + " calls, " + wrong + " wrong");
    if (wrong != 0) System.exit(1);
  }

  private static ButterflyCode make(String text, int loud) {
    ButterflyCode x = new ButterflyCode();
    for (int at = 0; at < text.length(); at += 20) {
      int[] n = new int[5];
      for (int i = 0; i < 20; i++) n[i / 4] = n[i / 4] << 8 | (at + i < text.length() ? text.charAt(at + i) : 0);
      x.feed(n[0], n[1], n[2], n[3], n[4]);
    }
    x.end(text.length());
    x.code();
    if (loud == 1) x.send(0, 100, 100);
    if (loud == 2) x.send(1, 3, 2);
    if (loud == 3) {
      for (int i = 0; i < x.count(0); i++) x.tell(i, i % 2 == 0 ? 127 : -127);
    }
    return x;
  }

  private static String state(ButterflyCode x) {
    StringBuilder b = new StringBuilder();
    for (int i = 0; i < 10; i++) b.append(x.count(i)).append(' ');
    for (int i = 0; i < 64; i++) b.append(x.sum(i)).append(' ').append(x.kept(i)).append(' ');
    return b.toString();
  }

  private static void ask(String text, int loud) {
    for (int a : NUMBERS) {
      ButterflyCode x = make(text, loud);
      String before = state(x);
      questions(x, a);
      same(text, loud, before, x);
    }
    ButterflyCode x = make(text, loud);
    String before = state(x);
    for (long l : LONGS) {
      x.word(l);
      x.check(l);
      x.systematic(l);
      x.distance(l);
      calls += 4;
    }
    x.read();
    x.soughtMessage();
    same(text, loud, before, x);
    refused(text, loud);
    acts(text, loud);
  }

  private static void same(String text, int loud, String before, ButterflyCode x) {
    if (!before.equals(state(x))) {
      wrong++;
      System.out.println("'" + text + "', " + loud + ": a question changed the object");
    }
  }

  private static void questions(ButterflyCode x, int a) {
    x.goodness(a);
    x.kept(a);
    x.row(a);
    x.sum(a);
    x.told(a);
    x.message(a);
    x.grown(a);
    x.flipped(a);
    x.sought(a);
    x.nearest(a);
    x.weights(a);
    x.count(a);
    x.path(a, 0, 0);
    x.path(0, a, 1);
    x.path(1, 1, a);
    x.work(a, true, 0);
    x.work(1, false, a);
    x.work(2, true, a);
    x.frames(1, a, 5, 0);
    x.frames(2, 5, a, 1);
    x.frames(1, 100, 100, a);
    calls += 21;
  }

  /** What the document refuses leaves all as it was. */
  private static void refused(String text, int loud) {
    ButterflyCode x = make(text, loud);
    x.feed(1, 2, 3, 4, 5);
    x.end(3);
    String before = state(x);
    int n = x.count(0);
    boolean same = x.end(4) == -1 && x.end(-1) == -1 && x.end(Integer.MIN_VALUE) == -1 && x.hear() == -1;
    same &= x.tell(n, 0) == Integer.MIN_VALUE && x.tell(-1, 0) == Integer.MIN_VALUE;
    same &= x.tell(0, 128) == Integer.MIN_VALUE && x.tell(0, -128) == Integer.MIN_VALUE && x.tell(0, Integer.MIN_VALUE) == Integer.MIN_VALUE;
    same &= x.send(0, -1, 0) == -1 && x.send(0, 101, 0) == -1 && x.send(0, 0, -1) == -1 && x.send(0, 0, Integer.MAX_VALUE) == -1;
    same &= x.list(0) == -1 && x.list(9) == -1 && x.list(x.count(5)) == -1;
    same &= x.draws(-1) == -1 && x.image(2) == -1 && x.image(-1) == -1 && x.back(0) == -1 && x.back(2) == -1 && x.back(-5) == -1;
    same &= n != 0 || x.send(0, 1, 1) == -1;
    calls += 24;
    if (!same || !before.equals(state(x))) {
      wrong++;
      System.out.println("'" + text + "', " + loud + ": a refused call was taken");
    }
  }

  private static void acts(String text, int loud) {
    ButterflyCode x = make(text, loud);
    for (int a : NUMBERS) {
      x.feed(a, a, a, a, a);
      x.end(a);
      x.hear();
      x.tell(a, 5);
      x.tell(0, a);
      x.send(1, a, 5);
      x.send(a, 5, a);
      x.list(a);
      x.draws(a);
      x.image(a);
      x.code();
      if (a == 8) x.back(1);
      if (a == 9) x.back(0);
      x.undo();
      calls += 13;
    }
    while (x.undo() >= 0) {
      calls++;
    }
    x.read();
  }
}
