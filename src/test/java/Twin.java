import java.util.function.Consumer;
import java.util.function.Supplier;

/** Two objects made alike, one of which is asked for something: whether that left all as it was. */
final class Twin {
  private static final long[] MASKS = {
    0L, -1L, 0x5555555555555555L, 0x3333333333333333L, 0x0f0f0f0f0f0f0f0fL, 0x00ff00ff00ff00ffL, 0x0000ffff0000ffffL, 0x00000000ffffffffL
  };

  private Twin() {}

  static void unchanged(Due due, String what, Supplier<ButterflyCode> maker, Consumer<ButterflyCode> call) {
    ButterflyCode asked = maker.get();
    call.accept(asked);
    due.same("left as it was by " + what, all(asked), all(maker.get()));
  }

  /** All that can be seen of an object, till nothing of it is left: acts are undone, images go back, the tape is heard. */
  static String all(ButterflyCode x) {
    StringBuilder b = new StringBuilder();
    for (int i = 0; i < x.count(0); i++) b.append(x.kept(i)).append(',');
    look(b, x);
    for (int i = 0; i < 14 && x.count(6) > 0; i++) {
      b.append("\n      undo ").append(x.undo());
      look(b, x);
    }
    for (int k = 0; k < 2; k++) {
      b.append("\n      back ").append(x.back(k));
      look(b, x);
    }
    tape(b, x);
    return b.toString();
  }

  private static void look(StringBuilder b, ButterflyCode x) {
    for (int i = 0; i <= 9; i++) b.append(' ').append(x.count(i));
    b.append(" :");
    for (long mask : MASKS) b.append(' ').append(x.distance(mask));
  }

  /** Its first bytes, as many as the code of the last image has. */
  private static void tape(StringBuilder b, ButterflyCode x) {
    int n = x.count(0);
    for (int i = 0; i < 4 && x.count(8) < n; i++) x.feed(0x11111111, 0x11111111, 0x11111111, 0x11111111, 0x11111111);
    x.end(n);
    b.append("\n      tape ").append(x.hear());
    for (int i = 0; i < n; i++) b.append(' ').append(x.sum(i));
  }
}
