/** Each promise by hand: what is due was reckoned from the document, not taken from the program. */
public final class PromisesTest {
  private static final int NONE = -1;
  private static final int NO_SUM = Integer.MIN_VALUE;
  private static int asked = 0;
  private static int wrong = 0;

  public static void main(String[] args) {
    promise1NewObject();
    promise2Feed();
    promise3End();
    promise4Code();
    promise4Faults();
    promise5Goodness();
    promise6Kept();
    promise7Word();
    promise8Check();
    promise9Systematic();
    promise10Row();
    promise11Hear();
    promise12Tell();
    promise13Send();
    promise14Sum();
    promise15Distance();
    promise16List();
    promise17Read();
    promise18Told();
    promise19Path();
    promise20Message();
    promise21Work();
    promise22Grown();
    promise23Flipped();
    promise24Sought();
    promise25SoughtMessage();
    promise26Nearest();
    promise27Weights();
    promise28Draws();
    promise29Frames();
    promise30Undo();
    promise31Image();
    promise32Back();
    promise33Count();
    System.out.println("PromisesTest: " + asked + " answers, " + wrong + " not as due");
    if (wrong != 0) System.exit(1);
  }

  private static void due(String what, long got, long want) {
    asked++;
    if (got != want) {
      wrong++;
      System.out.println(what + " answered " + got + ", due is " + want);
    }
  }

  private static ButterflyCode none() { return new ButterflyCode(); }

  private static void put(ButterflyCode x, String text) {
    for (int at = 0; at < text.length(); at += 20) {
      int[] n = new int[5];
      for (int i = 0; i < 20; i++) n[i / 4] = n[i / 4] << 8 | (at + i < text.length() ? text.charAt(at + i) : 0);
      x.feed(n[0], n[1], n[2], n[3], n[4]);
    }
    x.end(text.length());
  }

  private static int tellCode(ButterflyCode x, String text) {
    put(x, text);
    return x.code();
  }

  private static ButterflyCode of(String text) {
    ButterflyCode x = none();
    tellCode(x, text);
    return x;
  }

  private static void sums(ButterflyCode x, int... sums) {
    for (int i = 0; i < sums.length; i++) x.tell(i, sums[i]);
  }

  /** Kept are 2 and 3; what is read in it is reckoned by hand at promise 19. */
  private static ButterflyCode small() {
    ButterflyCode x = of("size 2;keep 2");
    sums(x, 10, -3, 4, 5);
    return x;
  }

  /** Kept are 5, 6, 7; the sums say 51, the row of 5, whose check fails. */
  private static ButterflyCode failing() {
    ButterflyCode x = of("size 3;keep 2;check 1 1;list 2");
    sums(x, -5, -5, 5, 5, -5, -5, 5, 5);
    return x;
  }

  /**
   * All is kept; just the words 0 and 8 have checks that hold, and of 16 words these are the farthest,
   * so a list of 8 has neither. The sums by which 0 to 3 are decided are 1, 128, 128, 382.
   */
  private static ButterflyCode far() {
    ButterflyCode x = of("size 2;keep 1;check 3 7");
    sums(x, -127, -127, -127, 1);
    return x;
  }

  private static ButterflyCode noisy(int drawn, int b) {
    ButterflyCode x = of("size 6;keep 20;check 8 29");
    x.draws(drawn);
    x.send(1000, 30, b);
    return x;
  }

  private static void promise1NewObject() {
    ButterflyCode x = none();
    for (int i = 0; i <= 9; i++) due("new: count(" + i + ")", x.count(i), 0);
    due("new: undo()", x.undo(), NONE);
    due("new: back(0)", x.back(0), NONE);
    due("new: read()", x.read(), 0);
    due("NONE", ButterflyCode.NONE, -1);
  }

  private static void promise2Feed() {
    ButterflyCode x = none();
    for (int i = 1; i <= 10; i++) due("feed " + i, x.feed(i, 0, -1, i, 7), 20 * i);
    due("feed beyond 200", x.feed(1, 2, 3, 4, 5), NONE);
    due("tape behind it", x.count(8), 200);
    x.end(181);
    due("feed to 201", x.feed(1, 2, 3, 4, 5), NONE);
    x.end(180);
    due("feed to 200", x.feed(1, 2, 3, 4, 5), 200);
    ButterflyCode y = of("size 6;keep 2");
    for (int i = 0; i < 4; i++) y.feed(0x01020304, 0x05060708, 0x7f80ff00, 0x81fe1011, 0x12131415);
    y.end(64);
    y.hear();
    int[] want = {1, 2, 3, 4, 5, 6, 7, 8, 127, -127, -1, 0, -127, -2, 16, 17, 18, 19, 20, 21, 1};
    for (int i = 0; i < want.length; i++) due("order of bytes " + i, y.sum(i), want[i]);
  }

  private static void promise3End() {
    ButterflyCode x = none();
    due("end(0) of none", x.end(0), 0);
    due("end(1) of none", x.end(1), NONE);
    x.feed(1, 2, 3, 4, 5);
    due("end(21)", x.end(21), NONE);
    due("end(-1)", x.end(-1), NONE);
    due("tape stays", x.count(8), 20);
    due("end(20)", x.end(20), 20);
    due("end(7)", x.end(7), 7);
    due("tape of 7", x.count(8), 7);
    due("end(8)", x.end(8), NONE);
    due("feed behind 7", x.feed(0, 0, 0, 0, 0), 27);
  }

  private static void promise4Code() {
    ButterflyCode x = none();
    due("least code", tellCode(x, "size 2;keep 1"), 4);
    due("tape is empty", x.count(8), 0);
    due("greatest code", tellCode(x, "size 6;keep 64"), 64);
    due("K of 64", x.count(1), 64);
    due("without E", x.count(4), 500);
    due("without L", x.count(5), 4);
    due("without blanks", tellCode(x, "size3;info0,7;check1 1;erase999;list8"), 8);
    due("with blanks", tellCode(x, "  size  003 ;  info 0 , 7 ; check 1  255 ;erase 1; list 1  "), 8);
    due("K of info", x.count(1), 1);
    due("C", x.count(2), 1);
    due("POLY as told", x.count(3), 255);
    due("E", x.count(4), 1);
    due("L", x.count(5), 1);
    due("all of 8 bits", tellCode(x, "size 4;check 8 0;keep 8"), 16);
    due("all channels", tellCode(x, "size 6;info " + allChannels()), 64);
    due("all channels: K", x.count(1), 64);
    sums(x, 4, 5, 6);
    tellCode(x, "size 2;keep 2");
    due("all sums are 0 then", x.count(9), 4);
    x.tell(1, 9);
    x.list(7);
    int acts = x.count(6);
    due("a text that is none", tellCode(x, "size 2"), -2 - (8 * 6 + 4));
    due("fault: tape is empty", x.count(8), 0);
    due("fault: sums stay", x.sum(1), 9);
    due("fault: list stays", x.count(5), 7);
    due("fault: code stays", x.count(1), 2);
    due("fault: no act", x.count(6), acts);
  }

  private static void fault(String text, int place, int kind) {
    due("fault of '" + text + "'", tellCode(none(), text), -2 - (8 * place + kind));
  }

  private static void promise4Faults() {
    fault("", 0, 1);
    fault("   ", 3, 1);
    fault("size", 4, 1);
    fault("size ", 5, 1);
    fault("siz 2", 0, 1);
    fault("sizes 2", 0, 1);
    fault("Size 2", 0, 1);
    fault("keep 2", 0, 1);
    fault(" ;", 1, 1);
    fault("size x", 5, 1);
    fault("size 1", 5, 2);
    fault("size 7", 5, 2);
    fault("size 22;keep 1", 5, 2);
    fault("size 99999999999999999999998", 5, 2);
    fault("size 4294967298;keep 1", 5, 2);
    fault("size 2", 6, 4);
    fault("size 2  ", 8, 4);
    fault("size 2;", 7, 1);
    fault("size 2; ", 8, 1);
    fault("size 2;;keep 1", 7, 1);
    fault("size 2 keep 1", 7, 1);
    fault("size 2;keep 0", 12, 2);
    fault("size 2;keep 65", 12, 2);
    fault("size 2;keep 5", 13, 4);
    fault("size 6;keep 64;check 1 0", 24, 4);
    fault("size 2;keep 4;check 1 0", 23, 4);
    fault("size 2;keep 1;keep 1", 14, 3);
    fault("size 2;keep 1;info 1", 14, 3);
    fault("size 2;info 1;keep 1", 14, 3);
    fault("size 2;info 1;info 2", 14, 3);
    fault("size 2;list 1;list 1", 14, 3);
    fault("size 2;erase 1;erase", 15, 3);
    fault("size 2;check 0 0;check", 17, 3);
    // size is told already and can't stand there: of one place the least
    fault("size 2;size 2", 7, 1);
    fault("size 2;info 1,1", 14, 2);
    fault("size 2;info 2,1", 14, 2);
    fault("size 2;info 4", 12, 2);
    fault("size 2;info 0,4", 14, 2);
    fault("size 2;info 1,", 14, 1);
    fault("size 2;info ,1", 12, 1);
    fault("size 2;info", 11, 1);
    fault("size 2;info 1 2", 14, 1);
    fault("size 2;info 1;check 1 0", 23, 4);
    fault("size 2;keep 1;check 9 0", 20, 2);
    fault("size 2;keep 1;check 1 256", 22, 2);
    fault("size 2;keep 1;check 1", 21, 1);
    fault("size 2;keep 1;check 1,1", 21, 1);
    fault("size 2;keep 1;erase 0", 20, 2);
    fault("size 2;keep 1;erase 1000", 20, 2);
    fault("size 2;keep 1;list 0", 19, 2);
    fault("size 2;keep 1;list 9", 19, 2);
    fault("size 2;kepp 1", 7, 1);
    fault("size 2;keep 1 x", 14, 1);
    fault("size 2;keep 1x", 13, 1);
    fault("size 2;keep 1" + (char) 0, 13, 1);
    fault("size 2;keep 1" + (char) 233, 13, 1);
    fault("size 2;keep -1", 12, 1);
    fault("size 2;keep\t1", 11, 1);
    fault("size 9;kepp", 5, 2);
    fault("xize 2;keep 1", 0, 1);
    fault("size 2;xeep 1", 7, 1);
    fault("size 6;info " + allChannels() + ",", 194, 1);
    fault("size 6;info " + allChannels() + ",5", 194, 2);
    fault("size 6;info " + allChannels() + ",64", 194, 2);
    fault("size 6;info " + allChannels() + ";", 194, 1);
    cutFault("size 2;keepx 1", 11, 11, 1);
    cutFault("size 2; keep 1", 8, 8, 1);
    cutFault("size 2;info 1,2;check 1 1", 13, 13, 0);
    cutFault("size 2;keep 1;x", 13, 13, 0);
    cutFault("size 2;keep 15", 13, 13, 0);
    cutFault("size 2;info 1,,", 14, 14, 1);
  }

  private static String allChannels() {
    StringBuilder all = new StringBuilder("0");
    for (int i = 1; i < 64; i++) all.append(",").append(i);
    return all.toString();
  }

  /** What lay on the tape behind its end is not read; kind 0: there is no fault. */
  private static void cutFault(String text, int end, int place, int kind) {
    ButterflyCode x = none();
    put(x, text);
    x.end(end);
    due("fault of " + end + " of '" + text + "'", x.code(), kind == 0 ? 4 : -2 - (8 * place + kind));
  }

  private static void promise5Goodness() {
    ButterflyCode x = of("size 2;keep 2");
    due("goodness(0)", x.goodness(0), 937500000);
    due("goodness(1)", x.goodness(1), 562500000);
    due("goodness(2)", x.goodness(2), 437500000);
    due("goodness(3)", x.goodness(3), 62500000);
    due("goodness(4)", x.goodness(4), NONE);
    due("goodness(-1)", x.goodness(-1), NONE);
    due("no code: goodness(0)", none().goodness(0), NONE);
    // 1000000 becomes 1999000 or 1000; 1999000 then 3998000 less 3996 (of 3996.001), or 3996
    ButterflyCode y = of("size 2;keep 2;erase 1");
    due("erase 1: goodness(2)", y.goodness(2), 2000);
    due("erase 1: goodness(3)", y.goodness(3), 0);
    due("erase 1: goodness(1)", y.goodness(1), 3996);
    due("erase 1: goodness(0)", y.goodness(0), 3994004);
    due("info, too", of("size 2;info 0").goodness(3), 62500000);
  }

  private static void promise6Kept() {
    ButterflyCode x = of("size 2;keep 2");
    due("kept(0)", x.kept(0), -2);
    due("kept(1)", x.kept(1), -2);
    due("kept(2)", x.kept(2), 0);
    due("kept(3)", x.kept(3), 1);
    due("kept(4)", x.kept(4), NONE);
    due("kept(-1)", x.kept(-1), NONE);
    due("no code: kept(0)", none().kept(0), NONE);
    ButterflyCode y = of("size 2;info 0,3");
    due("info: kept(0)", y.kept(0), 0);
    due("info: kept(1)", y.kept(1), -2);
    due("info: kept(3)", y.kept(3), 1);
    ButterflyCode c = of("size 3;keep 2;check 1 1");
    int[] want = {-2, -2, -2, -2, -2, 0, 1, 2};
    for (int i = 0; i < 8; i++) due("with a check: kept(" + i + ")", c.kept(i), want[i]);
    // erase 1: z of 15, 14, 13 (of 16) and 11, 7 are 0: of like ones the greater
    ButterflyCode like = of("size 4;keep 2;erase 1");
    due("like ones: 15", like.kept(15), 1);
    due("like ones: 14", like.kept(14), 0);
    due("like ones: 13", like.kept(13), -2);
    due("all of 64: the last", of("size 6;keep 64").kept(63), 63);
  }

  private static void promise7Word() {
    ButterflyCode x = of("size 2;keep 2");
    long[] want = {0, 5, 15, 10};
    for (int i = 0; i < 4; i++) due("word(" + i + ")", x.word(i), want[i]);
    due("word(4)", x.word(4), 0);
    due("word(-1)", x.word(-1), 0);
    due("no code: word(0)", none().word(0), 0);
    due("no code: word(1)", none().word(1), 0);
    ButterflyCode c = of("size 3;keep 2;check 1 1");
    long[] checked = {0, 204, 170, 102};
    for (int i = 0; i < 4; i++) due("with a check: word(" + i + ")", c.word(i), checked[i]);
    ButterflyCode all = of("size 6;keep 64");
    due("64 bits: the last alone", all.word(1L << 63), -1L);
    due("64 bits: the first alone", all.word(1), 1);
    due("64 bits: there and back", all.word(all.word(0x123456789abcdef0L)), 0x123456789abcdef0L);
  }

  private static void promise8Check() {
    ButterflyCode x = of("size 3;keep 2;check 1 1");
    int[] want = {0, 1, 1, 0};
    for (int i = 0; i < 4; i++) due("parity of " + i, x.check(i), want[i]);
    due("check(4)", x.check(4), NONE);
    due("check(-1)", x.check(-1), NONE);
    due("no code: check(0)", none().check(0), NONE);
    due("C of 0", of("size 2;keep 2;check 0 255").check(3), 0);
    // POLY 11 is 3 of 2 to the 3: r of bits 1, 0, 1 is 3, 6, then 7 unlike: 4
    ButterflyCode y = of("size 3;keep 3;check 3 11");
    due("1", y.check(4), 3);
    due("1, 0", y.check(2), 6);
    due("1, 0, 0", y.check(1), 7);
    due("1, 0, 1", y.check(5), 4);
    // channels, rising: message bits, then r from bit 2 down (here 4 is 1, 0, 0)
    ButterflyCode z = of("size 3;info 0,1,2,3,4,5;check 3 3");
    due("order of check bits", z.word(5), 1 ^ 5 ^ 15);
  }

  private static void promise9Systematic() {
    ButterflyCode x = of("size 2;keep 2");
    long[] want = {0, 5, 10, 15};
    for (int i = 0; i < 4; i++) due("systematic(" + i + ")", x.systematic(i), want[i]);
    due("systematic(4)", x.systematic(4), -1);
    due("no code: systematic(0)", none().systematic(0), -1);
    due("with a check", of("size 3;keep 2;check 1 1").systematic(0), -1);
    ButterflyCode y = of("size 2;info 0,1,3");
    due("there is none", y.systematic(4), -1);
    due("there is one", y.systematic(2), 2);
    due("0 always is", y.systematic(0), 0);
    due("all 1s", of("size 6;keep 64").systematic(-1L), -1L);
    due("64 bits", of("size 6;keep 64").systematic(77), 77);
  }

  private static void promise10Row() {
    ButterflyCode x = of("size 2;keep 2");
    int[] want = {1, 2, 2, 4};
    for (int i = 0; i < 4; i++) due("row(" + i + ")", x.row(i), want[i]);
    due("row(4)", x.row(4), NONE);
    due("row(-2)", x.row(-2), NONE);
    due("least row", x.row(NONE), 2);
    due("least row of one", of("size 2;info 3").row(NONE), 4);
    due("least row of all", of("size 2;keep 4").row(NONE), 1);
    due("least row with a check", of("size 3;keep 2;check 1 1").row(NONE), 4);
    due("row(63)", of("size 6;keep 1").row(63), 64);
    due("no code: row(0)", none().row(0), NONE);
    due("no code: least row", none().row(NONE), NONE);
  }

  private static void promise11Hear() {
    ButterflyCode x = of("size 2;keep 2");
    x.feed(0x7f80ff81, 0x01000000, 0, 0, 0);
    due("hear of 20", x.hear(), NONE);
    due("tape stays", x.count(8), 20);
    x.end(5);
    due("hear of 5", x.hear(), NONE);
    x.end(4);
    int acts = x.count(6);
    due("hear of 4", x.hear(), 4);
    due("tape is empty", x.count(8), 0);
    due("it is an act", x.count(6), acts + 1);
    int[] want = {127, -127, -1, -127};
    for (int i = 0; i < 4; i++) due("heard " + i, x.sum(i), want[i]);
    due("hear of none", x.hear(), NONE);
    x.feed(1, 1, 1, 1, 1);
    x.end(3);
    due("hear of 3", x.hear(), NONE);
    due("tape of 3 stays", x.count(8), 3);
    due("sums stay", x.sum(0), 127);
    ButterflyCode y = none();
    due("no code, no tape", y.hear(), NONE);
    y.feed(1, 1, 1, 1, 1);
    due("no code", y.hear(), NONE);
    due("no code: tape stays", y.count(8), 20);
  }

  private static void promise12Tell() {
    ButterflyCode x = of("size 2;keep 2");
    due("tell(0, 127)", x.tell(0, 127), 0);
    due("tell(0, -127)", x.tell(0, -127), 127);
    due("tell(3, 1)", x.tell(3, 1), 0);
    due("sum(0)", x.sum(0), -127);
    int acts = x.count(6);
    due("tell(0, 128)", x.tell(0, 128), NO_SUM);
    due("tell(0, -128)", x.tell(0, -128), NO_SUM);
    due("tell(4, 0)", x.tell(4, 0), NO_SUM);
    due("tell(-1, 0)", x.tell(-1, 0), NO_SUM);
    due("nothing happened", x.count(6), acts);
    due("the same is an act, too", x.tell(3, 1), 1);
    due("acts then", x.count(6), acts + 1);
    due("no code: tell(0, 0)", none().tell(0, 0), NO_SUM);
  }

  private static void promise13Send() {
    ButterflyCode x = of("size 2;keep 2");
    due("send(2, 40, 30)", x.send(2, 40, 30), 4);
    int[] want = {-70, -13, -25, -35};
    for (int i = 0; i < 4; i++) due("sent " + i, x.sum(i), want[i]);
    due("x went on", x.count(7), 1449466924);
    x.draws(5);
    x.send(3, 100, 100);
    int[] most = {127, -127, 127, -81};
    for (int i = 0; i < 4; i++) due("sent to the most " + i, x.sum(i), most[i]);
    due("x of these", x.count(7), 2089129857);
    x.draws(0);
    x.send(1, 100, 0);
    int[] clean = {-100, 100, -100, 100};
    for (int i = 0; i < 4; i++) due("sent clean " + i, x.sum(i), clean[i]);
    due("x goes on without B, too", x.count(7), 1449466924);
    int acts = x.count(6);
    due("A of 101", x.send(1, 101, 0), NONE);
    due("A of -1", x.send(1, -1, 0), NONE);
    due("B of 101", x.send(1, 1, 101), NONE);
    due("B of -1", x.send(1, 1, -1), NONE);
    due("bits beyond K", x.send(4, 1, 1), NONE);
    due("no act", x.count(6), acts);
    due("x stays", x.count(7), 1449466924);
    due("sums stay", x.sum(0), -100);
    due("A and B of 0", x.send(1, 0, 0), 4);
    due("all sums 0 of it", x.count(9), 4);
    due("no code", none().send(0, 1, 1), NONE);
  }

  private static void promise14Sum() {
    ButterflyCode x = small();
    due("sum(1)", x.sum(1), -3);
    due("sum(3)", x.sum(3), 5);
    due("sum(4)", x.sum(4), NO_SUM);
    due("sum(-1)", x.sum(-1), NO_SUM);
    due("no code: sum(0)", none().sum(0), NO_SUM);
  }

  private static void promise15Distance() {
    ButterflyCode x = small();
    due("distance(0)", x.distance(0), 3);
    due("distance(5)", x.distance(5), 17);
    due("distance(15)", x.distance(15), 19);
    due("distance(10)", x.distance(10), 5);
    due("distance(2)", x.distance(2), 0);
    due("no word, too", x.distance(1), 13);
    due("bits beyond N", x.distance(-16L | 10), 5);
    x.tell(0, 0);
    due("0 says nothing", x.distance(1), x.distance(0));
    due("no code: distance(0)", none().distance(0), NONE);
    ButterflyCode y = of("size 6;keep 1");
    y.tell(63, 127);
    due("the highest bit", y.distance(1L << 63), 127);
  }

  private static void promise16List() {
    ButterflyCode x = of("size 2;keep 2;list 3");
    due("list(8)", x.list(8), 3);
    due("list(1)", x.list(1), 8);
    int acts = x.count(6);
    due("list(1) again", x.list(1), NONE);
    due("list(0)", x.list(0), NONE);
    due("list(9)", x.list(9), NONE);
    due("list(-1)", x.list(-1), NONE);
    due("no act", x.count(6), acts);
    due("it stays", x.count(5), 1);
    due("no code: list(1)", none().list(1), NONE);
  }

  private static void promise17Read() {
    ButterflyCode x = small();
    due("read()", x.read(), 0);
    x.tell(3, -5);
    // 0 is 8 far, word 10 (message 3) is 0 far
    due("read() of 10", x.read(), 3);
    due("no code: read()", none().read(), 0);
    ButterflyCode y = failing();
    due("the check picks the second", y.read(), 3);
    y.list(1);
    due("none holds: the first", y.read(), 1);
    ButterflyCode z = of("size 6;keep 64");
    z.send(0x8000000000000001L, 50, 10);
    due("64 bits", z.read(), 0x8000000000000001L);
  }

  private static void promise18Told() {
    ButterflyCode x = failing();
    due("told(0)", x.told(0), 20);
    due("told(1)", x.told(1), 1);
    due("told(2)", x.told(2), 1);
    due("told(3)", x.told(3), 2);
    due("told(4)", x.told(4), NONE);
    due("told(-1)", x.told(-1), NONE);
    x.list(1);
    due("list 1: told(0)", x.told(0), 0);
    due("list 1: told(1)", x.told(1), 0);
    due("list 1: told(2)", x.told(2), 0);
    due("list 1: told(3)", x.told(3), 1);
    due("C of 0 holds", small().told(1), 1);
    due("fewer paths than the list", of("size 2;keep 1;list 8").told(3), 2);
    due("no code: told(0)", none().told(0), NONE);
  }

  private static void isPath(ButterflyCode x, int i, int k, int metric, int bit, int ahead) {
    due("path(" + i + ", " + k + ", 0)", x.path(i, k, 0), metric);
    due("path(" + i + ", " + k + ", 1)", x.path(i, k, 1), bit);
    due("path(" + i + ", " + k + ", 2)", x.path(i, k, 2), ahead);
  }

  /**
   * Sums 10, -3, 4, 5: left 4, -3; channel 0 by -3 (frozen: 3), 1 by 1; right 14, 2; 2 by 2; 3 by 16
   * behind a 0, by -12 behind a 1.
   */
  private static void promise19Path() {
    ButterflyCode x = small();
    isPath(x, 0, 0, 3, 0, 0);
    isPath(x, 1, 0, 3, 0, 0);
    isPath(x, 2, 0, 3, 0, 0);
    isPath(x, 2, 1, 5, 1, 0);
    isPath(x, 3, 0, 3, 0, 0);
    isPath(x, 3, 1, 5, 1, 1);
    isPath(x, 3, 2, 17, 0, 1);
    isPath(x, 3, 3, 19, 1, 0);
    due("not so many: path(0, 1, 0)", x.path(0, 1, 0), -2);
    due("not so many: path(3, 4, 2)", x.path(3, 4, 2), -2);
    due("not so many: path(3, 1000, 2)", x.path(3, 1000, 2), -2);
    due("path(4, 0, 0)", x.path(4, 0, 0), NONE);
    due("path(-1, 0, 0)", x.path(-1, 0, 0), NONE);
    due("path(0, -1, 0)", x.path(0, -1, 0), NONE);
    due("path(0, 0, 3)", x.path(0, 0, 3), NONE);
    due("path(0, 0, -1)", x.path(0, 0, -1), NONE);
    due("path(0, 9, 3)", x.path(0, 9, 3), NONE);
    x.list(2);
    due("list 2: path(3, 1, 0)", x.path(3, 1, 0), 5);
    due("list 2: path(3, 2, 0)", x.path(3, 2, 0), -2);
    due("no code: path(0, 0, 0)", none().path(0, 0, 0), NONE);
    // all sums 0: like metrics stay by the paths ahead, then 0 ahead of 1
    ButterflyCode y = of("size 2;keep 3;list 3");
    isPath(y, 2, 0, 0, 0, 0);
    isPath(y, 2, 1, 0, 1, 0);
    isPath(y, 2, 2, 0, 0, 1);
    isPath(y, 3, 0, 0, 0, 0);
    isPath(y, 3, 1, 0, 1, 0);
    isPath(y, 3, 2, 0, 0, 1);
    // a frozen channel keeps the order, though the metrics turn round
    ButterflyCode z = of("size 2;info 0;list 2");
    sums(z, -9, -9, 3, 4);
    // left -3, -4: 0 by 3: bits 0 (0) and 1 (3); 1 by -7 (7 more) and by -1 (1 more): 7, then 4
    isPath(z, 0, 0, 0, 0, 0);
    isPath(z, 0, 1, 3, 1, 0);
    isPath(z, 1, 0, 7, 0, 0);
    isPath(z, 1, 1, 4, 0, 1);
  }

  private static void promise20Message() {
    ButterflyCode x = small();
    long[] want = {0, 3, 1, 2};
    for (int k = 0; k < 4; k++) due("message(" + k + ")", x.message(k), want[k]);
    due("message(4)", x.message(4), -1);
    due("message(-1)", x.message(-1), -1);
    due("no code: message(0)", none().message(0), -1);
    due("of a failing check, too", failing().message(0), 1);
  }

  private static void isWork(ButterflyCode x, int list, boolean cut, int left, int right, int decided, int metric) {
    int[] want = {left, right, decided, metric};
    for (int i = 0; i < 4; i++) due("work(" + list + ", " + cut + ", " + i + ")", x.work(list, cut, i), want[i]);
  }

  private static void promise21Work() {
    ButterflyCode x = small();
    isWork(x, 4, false, 4, 5, 4, 3);
    isWork(x, 4, true, 3, 4, 2, 3);
    isWork(x, 1, false, 4, 4, 4, 3);
    isWork(x, 1, true, 2, 2, 0, 3);
    isWork(x, 8, false, 4, 5, 4, 3);
    due("work(0, ..)", x.work(0, true, 0), NONE);
    due("work(9, ..)", x.work(9, false, 0), NONE);
    due("work(.., 4)", x.work(1, false, 4), NONE);
    due("work(.., -1)", x.work(1, false, -1), NONE);
    due("no code", none().work(1, false, 0), NONE);
    // 10, -3, 10, 3: right 20, 0: the 0 lets the node be gone down: 2 by 0 is decided, 3 by 20 is cut
    ButterflyCode zero = small();
    sums(zero, 10, -3, 10, 3);
    isWork(zero, 1, true, 3, 3, 1, 3);
    // the whole is such a node
    ButterflyCode all = of("size 2;keep 4");
    sums(all, 1, -1, 2, -2);
    isWork(all, 1, true, 0, 0, 0, 0);
    isWork(all, 1, false, 4, 4, 4, 0);
    due("with a list of 2 it is not", all.work(2, true, 2), 4);
    // one of size 1: kept 1 and 3: 0 and 2 are cut, 1 and 3 decided by a list of 2
    ButterflyCode one = of("size 2;info 1,3");
    sums(one, 3, 3, 3, 3);
    isWork(one, 2, true, 5, 7, 2, 0);
    isWork(one, 1, true, 4, 4, 0, 0);
  }

  private static void promise22Grown() {
    ButterflyCode x = failing();
    due("grown(0)", x.grown(0), 2);
    due("grown(1)", x.grown(1), 1);
    due("grown(2)", x.grown(2), 20);
    due("grown(3)", x.grown(3), NONE);
    due("grown(-1)", x.grown(-1), NONE);
    due("C of 0: grown(0)", small().grown(0), 1);
    due("C of 0: grown(1)", small().grown(1), 1);
    due("C of 0: grown(2)", small().grown(2), 3);
    due("no code: grown(0)", none().grown(0), NONE);
    ButterflyCode never = far();
    due("none holds: grown(0)", never.grown(0), 8);
    due("none holds: grown(1)", never.grown(1), 0);
    due("none holds: grown(2)", never.grown(2), 0);
  }

  private static void promise23Flipped() {
    ButterflyCode x = failing();
    due("flipped(0)", x.flipped(0), 1);
    due("flipped(1)", x.flipped(1), 5);
    due("flipped(2)", x.flipped(2), 20);
    due("flipped(3)", x.flipped(3), 1);
    due("flipped(4)", x.flipped(4), NONE);
    due("flipped(-1)", x.flipped(-1), NONE);
    ButterflyCode held = small();
    due("held: flipped(0)", held.flipped(0), 0);
    due("held: flipped(1)", held.flipped(1), NONE);
    due("held: flipped(2)", held.flipped(2), 3);
    due("held: flipped(3)", held.flipped(3), 1);
    due("no code: flipped(0)", none().flipped(0), NONE);
    // 0, then 1 and 2 (like ones) do not help
    due("the fourth: flipped(0)", far().flipped(0), 4);
    due("the fourth: flipped(1)", far().flipped(1), 3);
    due("the fourth: flipped(2)", far().flipped(2), 382);
    due("the fourth: flipped(3)", far().flipped(3), 1);
    ButterflyCode last = noisy(191, 60);
    due("the twelfth: flipped(0)", last.flipped(0), 12);
    due("the twelfth: flipped(1)", last.flipped(1), 30);
    due("the twelfth: flipped(2)", last.flipped(2), 409);
    due("the twelfth: flipped(3)", last.flipped(3), 1);
    ButterflyCode never = noisy(4, 60);
    due("none helps: flipped(0)", never.flipped(0), 12);
    due("none helps: flipped(1)", never.flipped(1), NONE);
    due("none helps: flipped(2)", never.flipped(2), 192);
    due("none helps: flipped(3)", never.flipped(3), 0);
    ButterflyCode few = of("size 2;keep 2;check 2 4");
    sums(few, 4, 6, 1, -5);
    due("none of four helps: flipped(0)", few.flipped(0), 4);
    due("none of four helps: flipped(1)", few.flipped(1), NONE);
    // the list is not asked
    x.list(8);
    due("list 8: flipped(1)", x.flipped(1), 5);
  }

  private static void promise24Sought() {
    ButterflyCode x = failing();
    due("sought(0)", x.sought(0), 20);
    due("sought(1)", x.sought(1), 11);
    due("sought(2)", x.sought(2), NONE);
    due("sought(-1)", x.sought(-1), NONE);
    due("no code: sought(0)", none().sought(0), NONE);
    due("straight on: sought(1)", of("size 6;keep 64").sought(1), 65);
    due("straight on: sought(0)", of("size 6;keep 64").sought(0), 0);
    ButterflyCode small = small();
    due("small: sought(0)", small.sought(0), 3);
    due("small: sought(1)", small.sought(1), 5);
    ButterflyCode most = noisy(17111, 70);
    due("the most: sought(0)", most.sought(0), 360);
    due("the most: sought(1)", most.sought(1), 1500);
    due("the most: soughtMessage()", most.soughtMessage(), 782912);
    // 1501 would have to go on
    due("one too many: sought(0)", noisy(7996, 70).sought(0), -3);
  }

  private static void promise25SoughtMessage() {
    due("soughtMessage()", failing().soughtMessage(), 3);
    due("small: soughtMessage()", small().soughtMessage(), 0);
    due("no code: soughtMessage()", none().soughtMessage(), -1);
    ButterflyCode x = of("size 6;keep 40;check 8 29");
    x.send(0x5a5a5a5a5aL, 10, 100);
    due("unknown: soughtMessage()", x.soughtMessage(), -1);
    due("unknown: sought(0)", x.sought(0), -3);
    due("unknown: sought(1)", x.sought(1), -3);
    due("unknown: sought(2)", x.sought(2), NONE);
  }

  private static void promise26Nearest() {
    ButterflyCode x = failing();
    due("nearest(0)", x.nearest(0), 0);
    due("nearest(1)", x.nearest(1), 20);
    due("nearest(2)", x.nearest(2), NONE);
    due("nearest(-1)", x.nearest(-1), NONE);
    x.tell(7, -5);
    // of 0 it is 25, of 1 (204) 35, of 2 (170) 15, of 3 (102) 25
    due("another: nearest(0)", x.nearest(0), 2);
    due("another: nearest(1)", x.nearest(1), 15);
    ButterflyCode y = of("size 4;keep 12");
    y.send(4095, 60, 20);
    due("K of 12: nearest(0)", y.nearest(0), 4095);
    due("K of 12: nearest(1)", y.nearest(1), 0);
    due("K of 13", of("size 4;keep 13").nearest(0), -3);
    due("K of 13: nearest(2)", of("size 4;keep 13").nearest(2), NONE);
    due("no code: nearest(0)", none().nearest(0), NONE);
  }

  private static void promise27Weights() {
    ButterflyCode x = of("size 2;keep 2");
    int[] want = {1, 0, 2, 0, 1};
    for (int w = 0; w <= 4; w++) due("weights(" + w + ")", x.weights(w), want[w]);
    due("weights(5)", x.weights(5), NONE);
    due("weights(-1)", x.weights(-1), NONE);
    due("with a check: weights(4)", of("size 3;keep 2;check 1 1").weights(4), 3);
    ButterflyCode y = of("size 4;keep 12");
    int all = 0;
    for (int w = 0; w <= 16; w++) all += y.weights(w);
    due("all of K 12", all, 4096);
    due("K of 13", of("size 4;keep 13").weights(0), -3);
    due("K of 13: weights(17)", of("size 4;keep 13").weights(17), NONE);
    due("no code: weights(0)", none().weights(0), NONE);
    // bits of all words of 4: 1, 4, 6, 4, 1
    ButterflyCode full = of("size 2;keep 4");
    int[] binomial = {1, 4, 6, 4, 1};
    for (int w = 0; w <= 4; w++) due("all words: weights(" + w + ")", full.weights(w), binomial[w]);
  }

  private static void promise28Draws() {
    ButterflyCode x = none();
    due("draws(2147483647)", x.draws(2147483647), 0);
    due("draws(-1)", x.draws(-1), NONE);
    due("draws(MIN)", x.draws(Integer.MIN_VALUE), NONE);
    due("it stays", x.count(7), 2147483647);
    due("draws(0)", x.draws(0), 2147483647);
    due("no act", x.count(6), 0);
    ButterflyCode y = of("size 2;keep 2");
    y.draws(2147483647);
    y.send(0, 0, 0);
    long want = 2147483647L;
    for (int i = 0; i < 4; i++) want = (want * 1103515245L + 12345L) % 2147483648L;
    due("on from the greatest", y.count(7), want);
  }

  private static void promise29Frames() {
    ButterflyCode x = small();
    // without A and B all sums are 0 and 0 is read: wrong are the messages that are not 0
    due("frames(10, 0, 0, 0)", x.frames(10, 0, 0, 0), 9);
    due("frames(10, 0, 0, 1)", x.frames(10, 0, 0, 1), 9);
    due("frames(1, 0, 0, 0)", x.frames(1, 0, 0, 0), 0);
    due("frames(40, 0, 0, 0)", x.frames(40, 0, 0, 0), 28);
    due("x stays", x.count(7), 0);
    due("sums stay", x.sum(1), -3);
    due("without noise", x.frames(40, 1, 0, 0), 0);
    due("noise that is too small", x.frames(40, 100, 99, 0), 0);
    due("n of 0", x.frames(0, 1, 1, 0), NONE);
    due("n of 41", x.frames(41, 1, 1, 0), NONE);
    due("A of 101", x.frames(1, 101, 1, 0), NONE);
    due("A of -1", x.frames(1, -1, 1, 0), NONE);
    due("B of 101", x.frames(1, 1, 101, 0), NONE);
    due("B of -1", x.frames(1, 1, -1, 0), NONE);
    due("what of 2", x.frames(1, 1, 1, 2), NONE);
    due("what of -1", x.frames(1, 1, 1, -1), NONE);
    due("no code", none().frames(1, 1, 1, 0), NONE);
  }

  private static void promise30Undo() {
    ButterflyCode x = none();
    due("nothing to undo", x.undo(), NONE);
    tellCode(x, "size 2;keep 2");
    x.tell(0, 7);
    tellCode(x, "size 3;keep 1;list 8");
    x.list(2);
    x.send(1, 9, 0);
    int drawn = x.count(7);
    x.feed(0x01020304, 0x05060708, 0, 0, 0);
    x.end(8);
    x.hear();
    due("undo hear", x.undo(), 5);
    due("the tape stays empty", x.count(8), 0);
    due("as sent", x.sum(0), -9);
    due("undo send", x.undo(), 4);
    due("x stays", x.count(7), drawn);
    due("all sums 0", x.count(9), 8);
    due("undo list", x.undo(), 3);
    due("list of before", x.count(5), 8);
    due("undo code", x.undo(), 2);
    due("N of before", x.count(0), 4);
    due("sum of before", x.sum(0), 7);
    due("list of before", x.count(5), 4);
    due("undo tell", x.undo(), 1);
    due("sum of 0", x.sum(0), 0);
    due("undo the first code", x.undo(), 0);
    due("no code", x.count(0), 0);
    due("no more", x.undo(), NONE);
    tellCode(x, "size 2;keep 2");
    for (int i = 1; i <= 20; i++) x.tell(0, i);
    due("twelve at most", x.count(6), 12);
    for (int i = 19; i >= 8; i--) {
      due("undo to " + i, x.undo(), i - 8);
      due("sum of " + i, x.sum(0), i);
    }
    due("the thirteenth is gone", x.undo(), NONE);
    due("sum stays", x.sum(0), 8);
  }

  private static void promise31Image() {
    ButterflyCode x = none();
    due("image(0) of none", x.image(0), 0);
    due("image(2)", x.image(2), NONE);
    due("image(-1)", x.image(-1), NONE);
    tellCode(x, "size 3;keep 2");
    due("image(1)", x.image(1), 8);
    due("no act", x.count(6), 1);
    x.tell(0, 5);
    due("image(1) anew", x.image(1), 8);
    x.tell(0, 6);
    x.back(1);
    due("the newer one", x.sum(0), 5);
  }

  private static void promise32Back() {
    ButterflyCode x = none();
    due("never made", x.back(0), NONE);
    x.image(0);
    tellCode(x, "size 3;keep 2;check 2 3;erase 300;list 2");
    x.tell(7, -8);
    x.image(1);
    tellCode(x, "size 2;keep 1");
    x.draws(99);
    x.feed(1, 2, 3, 4, 5);
    due("back(2)", x.back(2), NONE);
    due("back(-1)", x.back(-1), NONE);
    due("nothing happened", x.count(6), 3);
    due("back(1)", x.back(1), 8);
    int[] want = {8, 2, 2, 3, 300, 2, 0, 99, 20, 7};
    for (int i = 0; i < 10; i++) due("back: count(" + i + ")", x.count(i), want[i]);
    due("the sum", x.sum(7), -8);
    due("kept", x.kept(7), 3);
    due("nothing can be undone", x.undo(), NONE);
    x.tell(7, 1);
    due("one can", x.undo(), 0);
    due("back(0)", x.back(0), 0);
    due("no code", x.count(0), 0);
    due("back(1) again", x.back(1), 8);
    due("the image was not changed", x.sum(7), -8);
  }

  private static void promise33Count() {
    ButterflyCode x = of("size 4;keep 5;check 3 200;erase 77;list 6");
    x.tell(2, 1);
    x.draws(12);
    x.feed(0, 0, 0, 0, 0);
    int[] want = {16, 5, 3, 200, 77, 6, 2, 12, 20, 15};
    for (int i = 0; i < 10; i++) due("count(" + i + ")", x.count(i), want[i]);
    due("count(10)", x.count(10), NONE);
    due("count(-1)", x.count(-1), NONE);
  }
}
