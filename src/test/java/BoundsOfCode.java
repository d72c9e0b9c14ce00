/** Boundary cases of channels, words, checks, rows and systematic words: promises 5 to 10. */
final class BoundsOfCode {
  private static final int NONE = Codes.NONE;
  private static final int[] NO_CHANNELS_OF_64 = {64, 65, 128, -1, -2, -64, Integer.MAX_VALUE, Integer.MIN_VALUE};
  private final Due due;

  private BoundsOfCode(Due due) { this.due = due; }

  static void ask(Due due) {
    BoundsOfCode b = new BoundsOfCode(due);
    b.goodness();
    b.kept();
    b.word();
    b.check();
    b.systematic();
    b.row();
  }

  private void goodness() {
    due.says(5, "z of a CHANNEL");
    ButterflyCode x = Codes.of("size 2;keep 1");
    long[] want = {937500000, 562500000, 437500000, 62500000};
    for (int i = 0; i < 4; i++) due.is("goodness(" + i + ")", x.goodness(i), want[i]);
    due.is("of info, too", Codes.of("size 2;info 0").goodness(0), 937500000);
    due.says(Due.TERMS, "(each time the quotient alone downwards: whole numbers)");
    // 999000000 becomes 999999000 or 998001000; 999999000 * 999999000 has 999998000.001 as quotient
    ButterflyCode loud = Codes.of("size 2;keep 1;erase 999");
    long[] most = {1000000000, 999998000, 999996004, 996005996};
    for (int i = 0; i < 4; i++) due.is("erase 999: goodness(" + i + ")", loud.goodness(i), most[i]);
    // 1000000 becomes 1999000 or 1000; 1999000 * 1999000 has 3996.001, 1000 * 1000 has 0.001
    ButterflyCode still = Codes.of("size 2;keep 1;erase 1");
    long[] least = {3994004, 3996, 2000, 0};
    for (int i = 0; i < 4; i++) due.is("erase 1: goodness(" + i + ")", still.goodness(i), least[i]);
    due.is("the greatest of all", Codes.of("size 6;keep 1;erase 999").goodness(0), 1000000000);
    due.is("the last of erase 999", Codes.of("size 6;keep 1;erase 999").goodness(63), 937974960);
    due.is("the first of erase 1", Codes.of("size 6;keep 1;erase 1").goodness(0), 62025040);
    due.is("the least of all", Codes.of("size 6;keep 1;erase 1").goodness(63), 0);
    due.says(Due.TERMS, "for each of M bits of i, from the highest");
    due.is("1 of 64, erase 1: the 1 comes last", Codes.of("size 6;keep 1;erase 1").goodness(1), 992812);
    due.says(5, "NONE without it");
    due.is("goodness(4)", x.goodness(4), NONE);
    due.is("goodness(-1)", x.goodness(-1), NONE);
    for (int i : NO_CHANNELS_OF_64) due.is("of 64: goodness(" + i + ")", Codes.of("size 6;keep 1").goodness(i), NONE);
    due.is("no code: goodness(0)", Codes.none().goodness(0), NONE);
  }

  private void isKept(String text, int... want) {
    ButterflyCode x = Codes.of(text);
    for (int i = 0; i < want.length; i++) due.is("'" + text + "': kept(" + i + ")", x.kept(i), want[i]);
  }

  private void kept() {
    due.says(6, "Which of the KEPT CHANNELS, rising, it is (0 the first); -2: FROZEN");
    isKept("size 2;keep 1", -2, -2, -2, 0);
    isKept("size 2;keep 3", -2, 0, 1, 2);
    isKept("size 2;keep 4", 0, 1, 2, 3);
    isKept("size 2;info 0", 0, -2, -2, -2);
    isKept("size 2;info 0,3", 0, -2, -2, 1);
    ButterflyCode all = Codes.of("size 6;keep 64");
    for (int i = 0; i < 64; i++) due.is("all of 64: kept(" + i + ")", all.kept(i), i);
    ButterflyCode one = Codes.of("size 6;keep 1");
    for (int i = 0; i < 63; i++) due.is("one of 64: kept(" + i + ")", one.kept(i), -2);
    due.is("one of 64: kept(63)", one.kept(63), 0);
    ButterflyCode most = Codes.of("size 6;keep 63");
    due.is("63 of 64: kept(0)", most.kept(0), -2);
    due.is("63 of 64: kept(63)", most.kept(63), 62);
    due.says(Due.TERMS, "KEPT are the K and C CHANNELS of least z");
    isKept("size 2;keep 1;check 1 0", -2, -2, 0, 1);
    isKept("size 2;keep 1;check 3 0", 0, 1, 2, 3);
    due.says(Due.TERMS, "(of like ones the greater i)");
    // erase 999: z of 0, 1, 2 and 4 is 1000000000, of others less
    isKept("size 3;keep 4;erase 999", -2, -2, -2, 0, -2, 1, 2, 3);
    isKept("size 3;keep 5;erase 999", -2, -2, -2, 0, 1, 2, 3, 4);
    isKept("size 3;keep 6;erase 999", -2, -2, 0, 1, 2, 3, 4, 5);
    isKept("size 3;keep 7;erase 999", -2, 0, 1, 2, 3, 4, 5, 6);
    due.says(Due.TERMS, "or those of info; others are FROZEN");
    isKept("size 3;info 0,1,2,4;erase 999", 0, 1, 2, -2, 3, -2, -2, -2);
    // a code is told anew: none of what was kept ahead of it is
    ButterflyCode anew = Codes.of("size 2;keep 4");
    Codes.tell(anew, "size 2;info 1");
    for (int i = 0; i < 4; i++) due.is("told anew: kept(" + i + ")", anew.kept(i), i == 1 ? 0 : -2);
    due.says(6, "NONE without it");
    ButterflyCode x = Codes.of("size 2;keep 1");
    due.is("kept(4)", x.kept(4), NONE);
    due.is("kept(-1)", x.kept(-1), NONE);
    for (int i : NO_CHANNELS_OF_64) due.is("of 64: kept(" + i + ")", all.kept(i), NONE);
    due.is("no code: kept(0)", Codes.none().kept(0), NONE);
  }

  private void word() {
    due.says(7, "The WORD of a MESSAGE, as bits");
    ButterflyCode all = Codes.of("size 6;keep 64");
    for (int i = 0; i < 64; i++) due.is("all: word of bit " + i, all.word(1L << i), Codes.row(i));
    due.is("all bits", all.word(-1L), 1L << 63);
    due.is("the last two", all.word(3L << 62), Codes.row(62) ^ -1L);
    due.is("0", all.word(0), 0);
    ButterflyCode least = Codes.of("size 2;keep 1");
    due.is("K of 1: word(1)", least.word(1), 15);
    due.is("K of 1: word(0)", least.word(0), 0);
    ButterflyCode checked = Codes.of("size 6;keep 56;check 8 255");
    long r = 0;
    for (int i = 56; i < 64; i++) r ^= Codes.row(i);
    due.is("the last bit of 56, r of 255", checked.word(1L << 55), Codes.row(55) ^ r);
    ButterflyCode most = Codes.of("size 6;keep 63");
    due.is("K of 63: the last bit", most.word(1L << 62), -1L);
    due.says(7, "0 without a CODE, or if it has bits beyond K");
    due.is("no code: word(0)", Codes.none().word(0), 0);
    due.is("no code: word(1)", Codes.none().word(1), 0);
    due.is("no code: word(-1)", Codes.none().word(-1), 0);
    for (long m : new long[] {2, 3, 4, 1L << 32, 1L << 32 | 1, Long.MIN_VALUE, Long.MIN_VALUE | 1, -1}) {
      due.is("K of 1: word(" + m + ")", least.word(m), 0);
    }
    due.is("K of 63: word(MIN)", most.word(Long.MIN_VALUE), 0);
    due.is("K of 63: word(-1)", most.word(-1), 0);
    due.is("K of 56: bit 56 is a check's", checked.word(1L << 56), 0);
    due.is("K of 56: bit 63", checked.word(1L << 63 | 1), 0);
  }

  private void check() {
    due.says(8, "r of a MESSAGE");
    due.is("C 8, POLY 255", Codes.of("size 6;keep 1;check 8 255").check(1), 255);
    due.is("C 8, POLY 255: 0", Codes.of("size 6;keep 1;check 8 255").check(0), 0);
    due.is("C 8, POLY 0", Codes.of("size 6;keep 1;check 8 0").check(1), 0);
    due.is("C 0, POLY 255", Codes.of("size 6;keep 1;check 0 255").check(1), 0);
    due.is("without a check", Codes.of("size 6;keep 64").check(-1L), 0);
    ButterflyCode all = Codes.of("size 6;keep 56;check 8 129");
    due.is("the last bit of 56", all.check(1L << 55), 129);
    // 129: bit 7 and the 0 are unlike: 258, of 256 the rest is 2, joined with 129
    due.is("the last but one", all.check(1L << 54), 131);
    due.is("both", all.check(3L << 54), 2);
    due.says(Due.TERMS, "for each bit of the MESSAGE from bit 0");
    ButterflyCode three = Codes.of("size 3;keep 3;check 2 1");
    int[] want = {0, 1, 2, 3, 1, 0, 3, 2};
    for (int m = 0; m < 8; m++) due.is("C 2, POLY 1: check(" + m + ")", three.check(m), want[m]);
    due.says(Due.TERMS, "joined (bit by bit, unlike ones 1) with POLY (of 2 to the C the rest), if t");
    due.is("C 1, POLY 254", Codes.of("size 2;keep 1;check 1 254").check(1), 0);
    due.is("C 1, POLY 255", Codes.of("size 2;keep 1;check 1 255").check(1), 1);
    due.is("C 3, POLY 255", Codes.of("size 2;keep 1;check 3 255").check(1), 7);
    due.is("POLY is counted as told", Codes.of("size 2;keep 1;check 1 254").count(3), 254);
    due.says(Due.TERMS, "KEPT CHANNELS, rising, have bits 0 to K - 1 of the MESSAGE, then those of r, from bit C - 1 down");
    ButterflyCode order = Codes.of("size 3;info 1,2,4,7;check 3 4");
    due.is("r of 4: channel 2", order.word(1), Codes.row(1) ^ Codes.row(2));
    due.is("r of 1: channel 7", Codes.of("size 3;info 1,2,4,7;check 3 1").word(1), Codes.row(1) ^ Codes.row(7));
    due.says(8, "NONE without a CODE, or if it has bits beyond K");
    due.is("no code: check(0)", Codes.none().check(0), NONE);
    due.is("no code: check(1)", Codes.none().check(1), NONE);
    due.is("K of 3: check(8)", three.check(8), NONE);
    due.is("K of 3: check(9)", three.check(9), NONE);
    due.is("K of 3: check(-1)", three.check(-1), NONE);
    due.is("K of 3: check(MIN)", three.check(Long.MIN_VALUE), NONE);
    due.is("K of 56: check of bit 56", all.check(1L << 56), NONE);
    due.is("C 0, K of 1: check(2)", Codes.of("size 6;keep 1").check(2), NONE);
  }

  private void systematic() {
    due.says(9, "The SYSTEMATIC WORD");
    ButterflyCode x = Codes.of("size 2;keep 2");
    long[] want = {0, 5, 10, 15};
    for (int m = 0; m < 4; m++) due.is("systematic(" + m + ")", x.systematic(m), want[m]);
    due.is("K of 1", Codes.of("size 2;keep 1").systematic(1), 15);
    due.says(9, "-1 (all bits) if there is none (also C above 0, bits beyond K), or without a CODE");
    ButterflyCode some = Codes.of("size 2;info 0,1,3");
    due.is("there is none", some.systematic(4), -1);
    due.is("there is one of 0", some.systematic(0), 0);
    due.is("there is one of 1", some.systematic(1), 1);
    due.is("C of 1", Codes.of("size 2;keep 1;check 1 0").systematic(0), -1);
    due.is("C of 1: 1", Codes.of("size 2;keep 1;check 1 0").systematic(1), -1);
    due.is("C of 0 is none", Codes.of("size 2;keep 2;check 0 255").systematic(3), 15);
    due.is("K of 2: systematic(4)", x.systematic(4), -1);
    due.is("K of 2: systematic(5)", x.systematic(5), -1);
    due.is("K of 2: systematic(MIN)", x.systematic(Long.MIN_VALUE), -1);
    due.is("K of 2: systematic(-1)", x.systematic(-1), -1);
    due.is("no code: systematic(0)", Codes.none().systematic(0), -1);
    due.is("no code: systematic(1)", Codes.none().systematic(1), -1);
    due.says(9, "(Such a WORD may be all 1s, too.)");
    due.is("all of 64", Codes.of("size 6;keep 64").systematic(-1L), -1L);
    due.is("all of 64: bit 63 alone", Codes.of("size 6;keep 64").systematic(1L << 63), 1L << 63);
    due.is("one of 64", Codes.of("size 6;keep 1").systematic(1), -1L);
    due.is("one of 64: 0", Codes.of("size 6;keep 1").systematic(0), 0);
  }

  private void row() {
    due.says(10, "How many 1s the ROW of a CHANNEL has");
    ButterflyCode x = Codes.of("size 6;keep 1");
    for (int i = 0; i < 64; i++) due.is("row(" + i + ")", x.row(i), 1 << Integer.bitCount(i));
    ButterflyCode small = Codes.of("size 2;keep 1");
    due.is("row(0)", small.row(0), 1);
    due.is("row(3)", small.row(3), 4);
    due.says(Due.TERMS, "ROW of a CHANNEL: the WORD (before any CHECK) that comes of a 1 there alone");
    due.is("with a check: row(1)", Codes.of("size 3;info 1,2,4,7;check 3 4").row(1), 2);
    due.says(10, "NONE without it");
    due.is("row(4)", small.row(4), NONE);
    due.is("row(-2)", small.row(-2), NONE);
    for (int i : NO_CHANNELS_OF_64) if (i != NONE) due.is("of 64: row(" + i + ")", x.row(i), NONE);
    due.is("no code: row(0)", Codes.none().row(0), NONE);
    due.says(10, "channel NONE: LEAST ROW (NONE without a CODE)");
    due.is("one of 64", x.row(NONE), 64);
    due.is("all of 64", Codes.of("size 6;keep 64").row(NONE), 1);
    due.is("all but the first", Codes.of("size 6;keep 63").row(NONE), 2);
    due.is("info 3,7", Codes.of("size 3;info 3,7").row(NONE), 4);
    due.is("a check's channel counts", Codes.of("size 3;info 3,4;check 1 1").row(NONE), 2);
    due.is("frozen ones do not", Codes.of("size 3;info 7").row(NONE), 8);
    due.is("no code", Codes.none().row(NONE), NONE);
  }
}
