/** Boundary cases of what is heard, told, sent and drawn: promises 11 to 16 and 28. */
final class BoundsOfSums {
  private static final int NONE = Codes.NONE;
  private static final int NO_SUM = Codes.NO_SUM;
  private final Due due;

  private BoundsOfSums(Due due) { this.due = due; }

  static void ask(Due due) {
    BoundsOfSums b = new BoundsOfSums(due);
    b.hear();
    b.tell();
    b.send();
    b.sent();
    b.sum();
    b.distance();
    b.list();
    b.draws();
  }

  private void sums(String what, ButterflyCode x, int... want) {
    for (int i = 0; i < want.length; i++) due.is(what + ": sum(" + i + ")", x.sum(i), want[i]);
  }

  private void hear() {
    due.says(11, "The TAPE's N bytes (it is empty then) are HEARD (128 to 255: 256 less; -127 for 128): N");
    ButterflyCode x = Codes.of("size 3;keep 1");
    Codes.put(x, new byte[] {0, 1, 126, 127, (byte) 128, (byte) 129, (byte) 254, (byte) 255});
    due.is("hear()", x.hear(), 8);
    due.is("the tape", x.count(8), 0);
    sums("bytes", x, 0, 1, 126, 127, -127, -127, -2, -1);
    for (int m = 2; m <= 6; m++) {
      ButterflyCode y = Codes.of("size " + m + ";keep 1");
      Codes.put(y, "~".repeat(1 << m));
      due.is("size " + m + ": hear()", y.hear(), 1 << m);
      due.is("the last sum", y.sum((1 << m) - 1), 126);
    }
    due.says(11, "NONE, and nothing happens (the TAPE stays, too), without a CODE, or if it has not just N");
    for (int n : new int[] {0, 3, 5, 8, 64, 199, 200}) {
      ButterflyCode y = Codes.heard("size 2;keep 1", 1, 2, 3, 4);
      Codes.put(y, " ".repeat(n));
      due.is(n + " for 4: hear()", y.hear(), NONE);
      due.is("the tape", y.count(8), n);
      due.is("acts", y.count(6), 2);
      sums("as before", y, 1, 2, 3, 4);
    }
    ButterflyCode great = Codes.of("size 6;keep 1");
    Codes.put(great, " ".repeat(63));
    due.is("63 for 64", great.hear(), NONE);
    Codes.put(great, " ".repeat(65));
    due.is("65 for 64", great.hear(), NONE);
    due.is("the tape of 65", great.count(8), 65);
    great.end(64);
    due.is("64 of these", great.hear(), 64);
    for (int n : new int[] {0, 4, 20, 64}) {
      ButterflyCode y = Codes.none();
      Codes.put(y, " ".repeat(n));
      due.is("no code, tape of " + n, y.hear(), NONE);
      due.is("the tape", y.count(8), n);
      due.is("acts", y.count(6), 0);
    }
  }

  private void tell() {
    due.says(12, "A SUM (bit 0 to N - 1; -127 to 127) is told: what it was");
    ButterflyCode x = Codes.of("size 2;keep 1");
    due.is("tell(0, 127)", x.tell(0, 127), 0);
    due.is("tell(0, -127)", x.tell(0, -127), 127);
    due.is("tell(0, 0)", x.tell(0, 0), -127);
    due.is("tell(0, 0) again", x.tell(0, 0), 0);
    due.is("that is an act, too", x.count(6), 5);
    due.is("tell(3, 1)", x.tell(3, 1), 0);
    sums("then", x, 0, 0, 0, 1);
    ButterflyCode y = Codes.of("size 6;keep 1");
    due.is("tell(63, -1)", y.tell(63, -1), 0);
    due.is("sum(63)", y.sum(63), -1);
    due.says(12, "Integer.MIN_VALUE, and nothing happens, without these");
    int acts = x.count(6);
    int[][] refused = {
      {4, 0}, {-1, 0}, {63, 0}, {64, 0}, {Integer.MIN_VALUE, 0}, {Integer.MAX_VALUE, 0}, {0, 128}, {0, -128}, {3, 255},
      {0, Integer.MIN_VALUE}, {0, Integer.MAX_VALUE}, {4, 128}
    };
    for (int[] r : refused) due.is("tell(" + r[0] + ", " + r[1] + ")", x.tell(r[0], r[1]), NO_SUM);
    due.is("acts", x.count(6), acts);
    sums("as before", x, 0, 0, 0, 1);
    due.is("of 64: tell(64, 0)", y.tell(64, 0), NO_SUM);
    due.is("no code: tell(0, 0)", Codes.none().tell(0, 0), NO_SUM);
    ButterflyCode none = Codes.none();
    none.tell(0, 5);
    due.is("no code: acts", none.count(6), 0);
  }

  private void send() {
    due.says(13, "SENT: the WORD's SUMS are HEARD (x goes on): N");
    ButterflyCode x = Codes.of("size 2;keep 2");
    due.is("send(3, 100, 0)", x.send(3, 100, 0), 4);
    sums("word 10", x, 100, -100, 100, -100);
    due.is("x of four draws", x.count(7), 1449466924);
    due.is("it is an act", x.count(6), 2);
    due.is("send(0, 0, 0)", x.send(0, 0, 0), 4);
    due.is("sums of 0", x.count(9), 4);
    ButterflyCode all = Codes.of("size 6;keep 64");
    due.is("64 bits", all.send(-1L, 7, 0), 64);
    due.is("bit 63 alone is 1", all.sum(63), -7);
    due.is("bit 62 is 0", all.sum(62), 7);
    due.says(13, "NONE, and nothing happens, without a CODE, bits beyond K, or for other A, B");
    Codes.hear(x, 1, 2, 3, 4);
    int acts = x.count(6);
    int drawn = x.count(7);
    long[][] refused = {
      {4, 1, 1}, {5, 1, 1}, {-1, 1, 1}, {Long.MIN_VALUE, 1, 1}, {1L << 32, 1, 1}, {1, -1, 1}, {1, 101, 1}, {1, 1, -1}, {1, 1, 101},
      {1, Integer.MIN_VALUE, 1}, {1, Integer.MAX_VALUE, 1}, {1, 1, Integer.MIN_VALUE}, {1, 1, Integer.MAX_VALUE}
    };
    for (long[] r : refused) {
      due.is("send(" + r[0] + ", " + r[1] + ", " + r[2] + ")", x.send(r[0], (int) r[1], (int) r[2]), NONE);
    }
    due.is("acts", x.count(6), acts);
    due.is("x", x.count(7), drawn);
    sums("as before", x, 1, 2, 3, 4);
    ButterflyCode none = Codes.none();
    due.is("no code", none.send(0, 1, 1), NONE);
    due.is("no code: x", none.count(7), 0);
  }

  /** The first sum of a message of 0 or 1 (all 1s) when the first draw is this number. */
  private int firstSum(int message, int a, int b, int drawn) {
    ButterflyCode x = Codes.of("size 2;keep 1");
    x.draws(Codes.ahead(drawn));
    x.send(message, a, b);
    return x.sum(0);
  }

  private void sent() {
    due.says(Due.TERMS, "SENT with A (0 to 100) and B (0 to 100)");
    due.is("A and B of 0", firstSum(1, 0, 0, 200), 0);
    due.is("A of 100, B of 0", firstSum(0, 100, 0, 200), 100);
    due.is("A of 100, B of 0, a 1", firstSum(1, 100, 0, 200), -100);
    due.is("B of 100, the least draw", firstSum(0, 0, 100, 0), -100);
    due.is("B of 100, the greatest draw", firstSum(0, 0, 100, 200), 100);
    due.is("B of 100, the middle one", firstSum(0, 0, 100, 100), 0);
    due.is("B of 1, the greatest draw", firstSum(0, 0, 1, 2), 1);
    due.says(Due.TERMS, "a DRAW of k is x / 65536, of k the rest");
    due.is("201 is 0 again", firstSum(0, 0, 100, 201), -100);
    due.is("the greatest x / 65536", firstSum(0, 0, 100, 32767), 32767 % 201 - 100);
    due.says(Due.TERMS, "127 at most, -127 at least");
    int[][] most = {{126, 126}, {127, 127}, {128, 127}, {200, 127}};
    for (int[] m : most) {
      due.is("100 and " + (m[0] - 100), firstSum(0, 100, 100, m[0]), m[1]);
      due.is("-100 and " + (100 - m[0]), firstSum(1, 100, 100, 200 - m[0]), -m[1]);
    }
    due.is("100 and -100", firstSum(0, 100, 100, 0), 0);
    due.is("-100 and 100", firstSum(1, 100, 100, 200), 0);
    due.says(Due.TERMS, "DRAWS: x (0 to 2147483647; 0 at first) becomes x * 1103515245 + 12345, of 2147483648 the rest");
    ButterflyCode x = Codes.of("size 2;keep 1");
    due.is("at first", x.count(7), 0);
    x.draws(2147483647);
    x.send(0, 0, 100);
    // 1043980748, 288979989, 646343466, 1751031067
    sums("on from the greatest x", x, 50 - 100, 188 - 100, 13 - 100, 186 - 100);
    due.is("x then", x.count(7), 1751031067);
    x.draws(0);
    x.send(0, 0, 100);
    // 12345, 1406932606, 654583775, 1449466924
    sums("on from 0", x, 0 - 100, 162 - 100, 139 - 100, 7 - 100);
  }

  private void sum() {
    due.says(14, "A SUM that was HEARD");
    ButterflyCode x = Codes.heard("size 2;keep 1", 127, -127, 0, -1);
    sums("heard", x, 127, -127, 0, -1);
    due.says(Due.TERMS, "HEARD are N SUMS (-127 to 127; 0 all at first)");
    ButterflyCode y = Codes.of("size 6;keep 1");
    for (int i = 0; i < 64; i++) due.is("at first: sum(" + i + ")", y.sum(i), 0);
    due.says(14, "Integer.MIN_VALUE without it");
    for (int i : new int[] {4, 5, 63, 64, -1, Integer.MIN_VALUE, Integer.MAX_VALUE}) due.is("sum(" + i + ")", x.sum(i), NO_SUM);
    due.is("of 64: sum(64)", y.sum(64), NO_SUM);
    due.is("of 64: sum(-1)", y.sum(-1), NO_SUM);
    due.is("no code: sum(0)", Codes.none().sum(0), NO_SUM);
    // a lesser code behind a greater one has no more of its sums
    Codes.hear(y, Codes.all(64, 9));
    Codes.tell(y, "size 2;keep 1");
    due.is("a lesser code: sum(4)", y.sum(4), NO_SUM);
    due.is("a lesser code: distance(-1)", y.distance(-1), 0);
  }

  private void distance() {
    due.says(15, "DISTANCE of a WORD, as bits (any; bits beyond N are not asked)");
    ButterflyCode x = Codes.heard("size 2;keep 1", 127, -127, 5, -3);
    due.is("distance(10)", x.distance(10), 0);
    due.is("distance(5)", x.distance(5), 262);
    due.is("no word of the code: distance(1)", x.distance(1), 127 + 127 + 3);
    due.is("bits beyond N: 10", x.distance(-16L | 10), 0);
    due.is("bits beyond N: 5", x.distance(Long.MIN_VALUE | 16 | 5), 262);
    ButterflyCode most = Codes.heard("size 6;keep 1", Codes.all(64, 127));
    due.is("64 of 127: distance(-1)", most.distance(-1), 8128);
    due.is("64 of 127: distance(0)", most.distance(0), 0);
    due.is("64 of 127: bit 63", most.distance(Long.MIN_VALUE), 127);
    ButterflyCode least = Codes.heard("size 6;keep 1", Codes.all(64, -127));
    due.is("64 of -127: distance(0)", least.distance(0), 8128);
    due.is("64 of -127: distance(MAX)", least.distance(Long.MAX_VALUE), 127);
    due.says(Due.TERMS, "(0 says nothing)");
    ButterflyCode zero = Codes.of("size 6;keep 1");
    due.is("all 0: distance(-1)", zero.distance(-1), 0);
    due.is("all 0: distance(0)", zero.distance(0), 0);
    due.says(15, "NONE without a CODE");
    due.is("no code: distance(0)", Codes.none().distance(0), NONE);
    due.is("no code: distance(-1)", Codes.none().distance(-1), NONE);
  }

  private void list() {
    due.says(16, "The LIST is told (1 to 8): what it was");
    ButterflyCode x = Codes.of("size 2;keep 1");
    due.is("list(8)", x.list(8), 4);
    due.is("list(1)", x.list(1), 8);
    due.is("list(2)", x.list(2), 1);
    due.is("the list", x.count(5), 2);
    due.is("acts", x.count(6), 4);
    due.says(16, "NONE, and nothing happens, without a CODE, for others, or if it is so");
    for (int n : new int[] {0, 9, -1, 2, 16, Integer.MIN_VALUE, Integer.MAX_VALUE}) due.is("list(" + n + ")", x.list(n), NONE);
    due.is("the list", x.count(5), 2);
    due.is("acts", x.count(6), 4);
    x.list(1);
    due.is("1: list(1)", x.list(1), NONE);
    x.list(8);
    due.is("8: list(8)", x.list(8), NONE);
    ButterflyCode none = Codes.none();
    for (int n = 0; n <= 9; n++) due.is("no code: list(" + n + ")", none.list(n), NONE);
    due.is("no code: acts", none.count(6), 0);
  }

  private void draws() {
    due.says(28, "x becomes a number: what it was");
    ButterflyCode x = Codes.none();
    due.is("draws(2147483647)", x.draws(2147483647), 0);
    due.is("draws(1)", x.draws(1), 2147483647);
    due.is("draws(0)", x.draws(0), 1);
    due.is("draws(0) again", x.draws(0), 0);
    due.is("it is no act", x.count(6), 0);
    due.says(28, "NONE, and nothing happens, below 0");
    x.draws(77);
    due.is("draws(-1)", x.draws(-1), NONE);
    due.is("draws(MIN)", x.draws(Integer.MIN_VALUE), NONE);
    due.is("x", x.count(7), 77);
  }
}
