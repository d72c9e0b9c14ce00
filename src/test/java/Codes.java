import java.util.Arrays;

/** Makes objects for tests: codes told by texts, sums heard by the tape. */
final class Codes {
  static final int NONE = -1;
  static final int NO_SUM = Integer.MIN_VALUE;

  private Codes() {}

  static ButterflyCode none() { return new ButterflyCode(); }

  /** The tape has just these bytes then. */
  static void put(ButterflyCode x, byte[] bytes) {
    x.end(0);
    for (int at = 0; at < bytes.length; at += 20) {
      int[] n = new int[5];
      for (int i = 0; i < 20; i++) n[i / 4] = n[i / 4] << 8 | (at + i < bytes.length ? bytes[at + i] & 255 : 0);
      x.feed(n[0], n[1], n[2], n[3], n[4]);
    }
    x.end(bytes.length);
  }

  static void put(ButterflyCode x, String text) {
    byte[] bytes = new byte[text.length()];
    for (int i = 0; i < bytes.length; i++) bytes[i] = (byte) text.charAt(i);
    put(x, bytes);
  }

  static int tell(ButterflyCode x, String text) {
    put(x, text);
    return x.code();
  }

  static ButterflyCode of(String text) {
    ButterflyCode x = none();
    tell(x, text);
    return x;
  }

  static void hear(ButterflyCode x, int... sums) {
    byte[] bytes = new byte[sums.length];
    for (int i = 0; i < sums.length; i++) bytes[i] = (byte) sums[i];
    put(x, bytes);
    x.hear();
  }

  static ButterflyCode heard(String text, int... sums) {
    ButterflyCode x = of(text);
    hear(x, sums);
    return x;
  }

  static int[] all(int many, int sum) {
    int[] sums = new int[many];
    Arrays.fill(sums, sum);
    return sums;
  }

  /** "4,5,6" for 4 and 6. */
  static String channels(int from, int to) {
    StringBuilder b = new StringBuilder();
    for (int i = from; i <= to; i++) b.append(i == from ? "" : ",").append(i);
    return b.toString();
  }

  static String blanks(int many) { return " ".repeat(many); }

  /** The row of a channel: bit j is 1 where all bits of j are bits of the channel. */
  static long row(int channel) {
    long row = 0;
    for (int j = 0; j <= channel; j++) if ((j & ~channel) == 0) row |= 1L << j;
    return row;
  }

  /** x ahead of a draw: the next draw of k is then this number (below 32768), of k the rest. */
  static int ahead(int number) {
    long inverse = 1;
    // each turn doubles how many of the low bits are right
    for (int i = 0; i < 5; i++) inverse = inverse * (2 - 1103515245L * inverse) & 0x7fffffffL;
    return (int) ((number * 65536L - 12345L) * inverse & 0x7fffffffL);
  }
}
