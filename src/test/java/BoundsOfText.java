/** Boundary cases of the tape and of the text that tells a code: promises 2 to 4 and the first part of the terms. */
final class BoundsOfText {
  private static final int NONE = Codes.NONE;
  private final Due due;

  private BoundsOfText(Due due) { this.due = due; }

  static void ask(Due due) {
    BoundsOfText b = new BoundsOfText(due);
    b.feed();
    b.end();
    b.code();
    b.longestText();
    b.numbers();
    b.lines();
    b.wordsAndNumbers();
    b.endsTooSoon();
    b.cannotStand();
    b.notAsTold();
    b.toldAlready();
    b.firstOfTwoFaults();
    b.whole();
  }

  private void stands(String text, int n) { due.is("code() of '" + text + "'", Codes.tell(Codes.none(), text), n); }
  private void fault(String text, int place, int kind) { stands(text, -2 - (8 * place + kind)); }

  private void feed() {
    due.says(2, "Twenty bytes come behind the TAPE, of each number the highest first: how many it has");
    ButterflyCode x = Codes.none();
    for (int i = 1; i <= 10; i++) due.is("feed to " + 20 * i, x.feed(0, -1, Integer.MIN_VALUE, Integer.MAX_VALUE, i), 20 * i);
    ButterflyCode y = Codes.of("size 4;keep 1");
    y.feed(0x01020304, 0x7f80ff81, Integer.MIN_VALUE, Integer.MAX_VALUE, 0x10111213);
    y.end(16);
    y.hear();
    int[] want = {1, 2, 3, 4, 127, -127, -1, -127, -127, 0, 0, 0, 127, -1, -1, -1};
    for (int i = 0; i < want.length; i++) due.is("byte " + i, y.sum(i), want[i]);
    due.says(2, "NONE, and none comes, if it would have more than 200");
    due.is("feed to 220", x.feed(1, 2, 3, 4, 5), NONE);
    due.is("the tape", x.count(8), 200);
    x.end(181);
    due.is("feed to 201", x.feed(1, 2, 3, 4, 5), NONE);
    due.is("the tape", x.count(8), 181);
    x.end(180);
    due.is("feed to 200", x.feed(1, 2, 3, 4, 5), 200);
    refusedFeedLeavesBytes();
  }

  /** The text ends with blanks from place 13 on; would a byte of a refused feed come, it could not stand. */
  private void refusedFeedLeavesBytes() {
    ButterflyCode x = Codes.none();
    Codes.put(x, "size 2;keep 1" + Codes.blanks(187));
    x.feed(0x78787878, 0x78787878, 0x78787878, 0x78787878, 0x78787878);
    due.is("code() behind a refused feed", x.code(), 4);
  }

  private void end() {
    due.says(3, "The TAPE has its first n bytes alone: n");
    ButterflyCode x = Codes.none();
    due.is("empty: end(0)", x.end(0), 0);
    Codes.put(x, "size 2;keep 14" + Codes.blanks(186));
    due.is("full: end(200)", x.end(200), 200);
    due.is("full: end(199)", x.end(199), 199);
    due.is("end(13)", x.end(13), 13);
    due.is("the tape", x.count(8), 13);
    due.is("the first 13 tell keep 1", x.code(), 4);
    due.is("K", x.count(1), 1);
    x.feed(1, 2, 3, 4, 5);
    due.is("end(0)", x.end(0), 0);
    due.is("the tape", x.count(8), 0);
    due.says(3, "NONE, and nothing happens, if it has not so many");
    due.is("empty: end(1)", x.end(1), NONE);
    x.feed(1, 2, 3, 4, 5);
    due.is("20: end(21)", x.end(21), NONE);
    due.is("the tape", x.count(8), 20);
    x.end(7);
    due.is("7: end(8)", x.end(8), NONE);
    due.is("7: end(20)", x.end(20), NONE);
    due.is("7: end(MAX)", x.end(Integer.MAX_VALUE), NONE);
    due.is("the tape", x.count(8), 7);
    for (int i = 0; i < 9; i++) x.feed(0, 0, 0, 0, 0);
    x.end(180);
    x.feed(0, 0, 0, 0, 0);
    due.is("200: end(201)", x.end(201), NONE);
    due.is("the tape", x.count(8), 200);
    due.says(3, "or n is below 0");
    due.is("end(-1)", x.end(-1), NONE);
    due.is("end(MIN)", x.end(Integer.MIN_VALUE), NONE);
    due.is("the tape", x.count(8), 200);
  }

  private void code() {
    due.says(4, "The TAPE, which is empty then, tells the CODE: N");
    ButterflyCode x = Codes.none();
    for (int m = 2; m <= 6; m++) {
      due.is("size " + m, Codes.tell(x, "size " + m + ";keep 1"), 1 << m);
      due.is("the tape", x.count(8), 0);
      due.is("N", x.count(0), 1 << m);
    }
    due.says(4, "-2 - its FAULT, and but for the TAPE nothing happens");
    due.is("an empty tape", x.code(), -2 - 1);
    due.is("acts", x.count(6), 5);
    x.tell(63, 9);
    due.is("a fault", Codes.tell(x, "size 2;keep 1;check 8 255;erase 1;list 0"), -2 - (8 * 39 + 2));
    due.is("the tape", x.count(8), 0);
    int[] want = {64, 1, 0, 0, 500, 4, 6, 0, 0, 63};
    for (int i = 0; i < want.length; i++) due.is("count(" + i + ")", x.count(i), want[i]);
    due.is("the sum", x.sum(63), 9);
    due.is("a fault without a code", Codes.tell(Codes.none(), "size 7"), -2 - (8 * 5 + 2));
    due.is("a code behind a fault", Codes.tell(x, "size 3;keep 8"), 8);
    due.is("all is kept of it", x.count(1), 8);
    due.says(Due.TERMS, "a CODE is told (all SUMS 0)");
    x.tell(0, 127);
    x.tell(7, -127);
    Codes.tell(x, "size 3;keep 8");
    due.is("sums of 0", x.count(9), 8);
    x.tell(3, 1);
    Codes.tell(x, "size 6;keep 8");
    due.is("sums of 0 of the greatest code", x.count(9), 64);
  }

  private void longestText() {
    due.says(Due.TERMS, "A CODE is told by a text of at most 200 bytes");
    stands("size 2;keep 1" + Codes.blanks(187), 4);
    stands(Codes.blanks(187) + "size 2;keep 1", 4);
    stands("size 2;" + Codes.blanks(187) + "keep 1", 4);
    stands("size 2;keep " + "0".repeat(187) + "1", 4);
    fault("size 2;keep " + "0".repeat(188), 12, 2);
    fault(Codes.blanks(200), 200, 1);
    fault("size 2;keep 1" + Codes.blanks(186) + ";", 200, 1);
    fault("size 2;keep 1" + Codes.blanks(186) + "x", 199, 1);
    fault("size 2" + Codes.blanks(194), 200, 4);
    fault("a".repeat(200), 0, 1);
    fault(";".repeat(200), 0, 1);
    fault("size 2;info " + "3,".repeat(94), 14, 2);
    fault("size 6;info " + Codes.channels(0, 63) + ",", 194, 1);
    fault("size 6;info " + Codes.channels(0, 63) + ",64", 194, 2);
    stands("size 6;info " + Codes.channels(0, 63) + "      ", 64);
  }

  /** A number stands if it is one of least to most, with as many zeros ahead as one likes. */
  private void range(String ahead, String behind, int least, int most) {
    int place = ahead.length();
    boolean[] in = {true, true, true, false, false, false, false, false, false};
    String[] numbers = {
      "" + least, "" + most, "00" + most, "" + (most + 1), "" + most + "0", "" + (least + 4294967296L),
      "" + (most + 1 + 4294967296L), "18446744073709551" + (616 + least), "9".repeat(40)
    };
    for (int i = 0; i < numbers.length; i++) {
      int got = Codes.tell(Codes.none(), ahead + numbers[i] + behind);
      if (in[i]) due.is("'" + ahead + numbers[i] + behind + "' stands", got > 0 ? 1 : got, 1);
      else due.is("'" + ahead + numbers[i] + behind + "'", got, -2 - (8 * place + 2));
    }
    if (least > 0) fault(ahead + (least - 1) + behind, place, 2);
  }

  private void numbers() {
    due.says(Due.TERMS, "size M (2 to 6)");
    range("size ", ";keep 1", 2, 6);
    due.says(Due.TERMS, "keep K (1 to 64)");
    range("size 6;keep ", "", 1, 64);
    fault("size 2;keep 64", 14, 4);
    fault("size 2;keep 65", 12, 2);
    due.says(Due.TERMS, "info I { , I } (0 to N - 1, rising; instead of keep)");
    for (int m = 2; m <= 6; m++) {
      range("size " + m + ";info ", "", 0, (1 << m) - 1);
      fault("size " + m + ";info 0,1," + (1 << m), 16, 2);
    }
    stands("size 2;info 0,1,2,3", 4);
    fault("size 2;info 0,0", 14, 2);
    fault("size 2;info 3,3", 14, 2);
    fault("size 2;info 1,2,1", 16, 2);
    fault("size 2;info 3,0", 14, 2);
    fault("size 2;info 0,1,2,3,4", 20, 2);
    fault("size 2;info 0,1,2,3,3", 20, 2);
    due.says(Due.TERMS, "check C POLY (C 0 to 8, POLY 0 to 255; 0, 0 without)");
    range("size 4;keep 1;check ", " 0", 0, 8);
    range("size 4;keep 1;check 8 ", "", 0, 255);
    range("size 4;keep 1;check 0 ", "", 0, 255);
    ButterflyCode x = Codes.of("size 4;check 8 255;keep 1");
    due.is("C", x.count(2), 8);
    due.is("POLY", x.count(3), 255);
    Codes.tell(x, "size 4;keep 1");
    due.is("C without", x.count(2), 0);
    due.is("POLY without", x.count(3), 0);
    due.says(Due.TERMS, "erase E (1 to 999; 500 without)");
    range("size 4;keep 1;erase ", "", 1, 999);
    Codes.tell(x, "size 4;keep 1;erase 999");
    due.is("E", x.count(4), 999);
    Codes.tell(x, "size 4;keep 1");
    due.is("E without", x.count(4), 500);
    due.says(Due.TERMS, "list L (1 to 8; 4 without)");
    range("size 4;keep 1;list ", "", 1, 8);
    Codes.tell(x, "size 4;keep 1;list 8");
    due.is("L", x.count(5), 8);
    x.list(1);
    Codes.tell(x, "size 4;keep 1");
    due.is("L without", x.count(5), 4);
  }

  private void lines() {
    due.says(Due.TERMS, "LINE { ; LINE }, the first one: size M");
    fault("keep 1;size 2", 0, 1);
    fault("list 1", 0, 1);
    fault(";size 2;keep 1", 0, 1);
    fault("size 2;;keep 1", 7, 1);
    fault("size 2;keep 1;", 14, 1);
    fault("size 2,keep 1", 6, 1);
    due.says(Due.TERMS, "Others, each at most once");
    stands("size 2;keep 1;check 1 1;erase 1;list 1", 4);
    stands("size 2;list 1;erase 1;check 1 1;keep 1", 4);
    stands("size 2;erase 1;info 0,1;list 1;check 1 1", 4);
    stands("size 2;check 0 0;keep 4", 4);
    due.says(Due.TERMS, "N is 2 to the M");
    due.is("N of 2", Codes.of("size 2;keep 1").count(0), 4);
    due.is("N of 6", Codes.of("size 6;keep 1").count(0), 64);
  }

  private void wordsAndNumbers() {
    due.says(Due.TERMS, "WORDS are small letters, NUMBERS digits, as far as these go on");
    stands("size2;keep1", 4);
    stands("size2;info0,3;check1 1;erase9;list8", 4);
    fault("size2keep1", 5, 1);
    fault("sizea 2;keep 1", 0, 1);
    fault("size 2;keepa 1", 7, 1);
    fault("size 2;keep 1a", 13, 1);
    fault("size 2;keep 11", 14, 4);
    fault("size 2;keep 1 1", 14, 1);
    fault("size 2;keep 1;check 11", 20, 2);
    fault("si ze 2;keep 1", 0, 1);
    fault("size 2;ke ep 1", 7, 1);
    fault("Size 2;keep 1", 0, 1);
    fault("siZe 2;keep 1", 0, 1);
    fault("size 2;keep {", 12, 1);
    fault("size 2;`eep 1", 7, 1);
    fault("size 2;{eep 1", 7, 1);
    fault("size /;keep 1", 5, 1);
    fault("size :;keep 1", 5, 1);
    fault("size 2;keep 1/", 13, 1);
    fault("size 2;keep 1:", 13, 1);
    fault("size +2;keep 1", 5, 1);
    fault("size -2;keep 1", 5, 1);
    due.says(Due.TERMS, "blanks (32) stand between as one likes");
    stands("   size   2   ;   keep   1   ;   check   1   1   ", 4);
    stands(" size 2 ; info 0 , 1 , 3 ; check 2 3 ", 4);
    fault("\tsize 2;keep 1", 0, 1);
    fault("size\t2;keep 1", 4, 1);
    fault("size 2;keep 1\n", 13, 1);
    fault("size 2;keep 1" + (char) 31, 13, 1);
    fault("size 2;keep 1" + (char) 33, 13, 1);
    fault("size 2;keep 1" + (char) 160, 13, 1);
    fault("size 2;keep 1" + (char) 0, 13, 1);
    fault("size 2;keep 1" + (char) 255, 13, 1);
    fault("size 2;keep " + (char) 177, 12, 1);
    fault((char) 243 + "ize 2;keep 1", 0, 1);
  }

  /** Every beginning of a text: what is due of each (0: it stands) was written down by hand. */
  private void endsTooSoon() {
    due.says(Due.TERMS, "or the text ends too soon (the place behind its last byte)");
    String text = "size 3;info 0,7;check 1 255;erase 999;list 8";
    int[] places = {
      0, 0, 0, 0, 4, 5, 6, 7, 7, 7, 7, 11, 12, 0, 14, 0, 16, 16, 16, 16, 16, 21, 22, 23, 24, 0, 0, 0,
      28, 28, 28, 28, 28, 33, 34, 0, 0, 0, 38, 38, 38, 38, 42, 43, 0
    };
    for (int n = 0; n <= text.length(); n++) {
      boolean stands = n == 13 || n == 15 || n >= 25 && n <= 27 || n >= 35 && n <= 37 || n == 44;
      int want = stands ? 8 : -2 - (8 * places[n] + (n == 6 ? 4 : 1));
      ButterflyCode x = Codes.none();
      Codes.put(x, text);
      x.end(n);
      due.is("code() of the first " + n + " of '" + text + "'", x.code(), want);
    }
    fault("size   ", 7, 1);
    fault("size 2;   ", 10, 1);
    fault("size 2;keep   ", 14, 1);
    fault("size 2;info 1,   ", 17, 1);
    fault("size 2;check 1   ", 17, 1);
  }

  private void cannotStand() {
    due.says(Due.TERMS, "1 the first byte or WORD that can't stand there");
    fault("2", 0, 1);
    fault("size size", 5, 1);
    fault("size ;keep 1", 5, 1);
    fault("size 2 2", 7, 1);
    fault("size 2;9", 7, 1);
    fault("size 2;keep keep", 12, 1);
    fault("size 2;keep 1,2", 13, 1);
    fault("size 2;info ,", 12, 1);
    fault("size 2;info 1,,2", 14, 1);
    fault("size 2;info 1;2", 14, 1);
    fault("size 2;info 1 2", 14, 1);
    fault("size 2;info x", 12, 1);
    fault("size 2;check ,", 13, 1);
    fault("size 2;check 1,1", 14, 1);
    fault("size 2;check 1;keep 1", 14, 1);
    fault("size 2;check 1 1 1", 17, 1);
    fault("size 2;list 1,2", 13, 1);
    fault("size 2;erase 1.5", 14, 1);
    fault("size 2;abc 1", 7, 1);
    fault("size 2;eras 1", 7, 1);
    fault("size 2;lists 1", 7, 1);
    fault("xize 2;keep 1", 0, 1);
    for (String word : new String[] {"xeep 1", "xnfo 1", "xheck 1 1", "xrase 1", "xist 1", "keex 1", "infx 1", "checx 1 1", "erasx 1", "lisx 1"}) {
      fault("size 2;" + word, 7, 1);
    }
  }

  private void notAsTold() {
    due.says(Due.TERMS, "2 the first NUMBER (where it begins) that is not as told");
    fault("size 007", 5, 2);
    fault("size    1;keep 1", 8, 2);
    fault("size 2;keep    0", 15, 2);
    fault("size 2;info 0,   0", 17, 2);
    fault("size 2;check 9 256", 13, 2);
    fault("size 2;check 8   256", 17, 2);
    fault("size 2;erase 1000", 13, 2);
    fault("size 2;list 9;list 9", 12, 2);
  }

  private void toldAlready() {
    due.says(Due.TERMS, "3 the first WORD that was told already");
    fault("size 2;keep 1;keep 2", 14, 3);
    fault("size 2;info 1;info 2", 14, 3);
    fault("size 2;check 0 0;check 0 0", 17, 3);
    fault("size 2;erase 500;erase 500", 17, 3);
    fault("size 2;list 4;list 4", 14, 3);
    fault("size 2;list 4;keep 1;  list 4", 23, 3);
    due.says(Due.TERMS, "or keep beside info (info beside keep; the second one)");
    fault("size 2;keep 1;info 1", 14, 3);
    fault("size 2;info 1;keep 1", 14, 3);
    fault("size 2;info 1;list 1;keep", 21, 3);
    fault("size 2;keep 1;list 1;info", 21, 3);
    // another text is told of anew
    ButterflyCode x = Codes.of("size 2;keep 1;check 0 0;erase 1;list 1");
    due.is("the same words in another text", Codes.tell(x, "size 2;list 1;erase 1;check 0 0;info 1"), 4);
  }

  private void firstOfTwoFaults() {
    due.says(Due.TERMS, "Of these the first along the text");
    fault("size 7;kepp 0", 5, 2);
    fault("size 2;kepp 0;list 9", 7, 1);
    fault("size 2;list 9;kepp", 12, 2);
    fault("size 2;keep 1;keep 0", 14, 3);
    fault("size 2;keep 1;keep x", 14, 3);
    fault("size 2;keep 1;info 9", 14, 3);
    fault("size 2;keep 0;keep 1", 12, 2);
    fault("size 2;keep 0x", 12, 2);
    fault("size 2;keep 5x", 13, 1);
    fault("size 2;info 3,2,x", 14, 2);
    fault("size 2;info 3,x,2", 14, 1);
    fault("size 2;check 9", 13, 2);
    fault("size 2;check 9 x", 13, 2);
    due.says(Due.TERMS, "of one place the least");
    fault("size 2;size 2;keep 1", 7, 1);
    fault("size 2;keep 1;size 2", 14, 1);
  }

  private void whole() {
    due.says(Due.TERMS, "If there is none: 4 (the place behind the last byte)");
    fault("size 2;list 9", 12, 2);
    fault("size 2;list 1;", 14, 1);
    fault("size 2;list 1;list 1", 14, 3);
    fault("size 2;keep 5;list 0", 19, 2);
    fault("size 2;keep 5;list 1x", 20, 1);
    fault("size 2;keep 5;list 1  ", 22, 4);
    due.says(Due.TERMS, "neither keep nor info");
    fault("size 2", 6, 4);
    fault("size 6;check 8 255;erase 1;list 1", 33, 4);
    ButterflyCode anew = Codes.of("size 2;keep 1");
    due.is("behind a code with keep", Codes.tell(anew, "size 2"), -2 - (8 * 6 + 4));
    Codes.tell(anew, "size 2;info 1");
    due.is("behind a code with info", Codes.tell(anew, "size 2"), -2 - (8 * 6 + 4));
    due.says(Due.TERMS, "more than N KEPT");
    for (int m = 2; m <= 6; m++) {
      int n = 1 << m;
      stands("size " + m + ";keep " + n, n);
      if (m < 6) fault("size " + m + ";keep " + (n + 1), (n + 1 < 10 ? 13 : 14), 4);
      int c = Math.min(8, n - 1);
      stands("size " + m + ";check " + c + " 0;keep " + (n - c), n);
      fault("size " + m + ";check " + c + " 0;keep " + (n - c + 1), (n - c + 1 < 10 ? 23 : 24), 4);
    }
    fault("size 6;keep 64;check 1 0", 24, 4);
    due.says(Due.TERMS, "or less than C and 1 by info");
    stands("size 2;info 0,1,2,3;check 3 0", 4);
    fault("size 2;info 0,1,2,3;check 4 0", 29, 4);
    stands("size 2;info 1;check 0 0", 4);
    fault("size 2;info 1;check 1 0", 23, 4);
    stands("size 4;check 8 0;info " + Codes.channels(0, 8), 16);
    fault("size 4;check 8 0;info " + Codes.channels(0, 7), 37, 4);
    fault("size 4;check 8 0;info 0", 23, 4);
    due.says(Due.TERMS, "K of info: how many less C");
    due.is("K", Codes.of("size 4;check 8 0;info " + Codes.channels(0, 8)).count(1), 1);
    due.is("K of all", Codes.of("size 6;info " + Codes.channels(0, 63)).count(1), 64);
    due.is("K of one", Codes.of("size 6;info 0").count(1), 1);
  }
}
