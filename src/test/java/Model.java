import java.util.ArrayList;
import java.util.Arrays;
import java.util.List;

/**
 * The document once more, word by word and as slow as it likes: bits in arrays, nodes gone down by
 * recursion, paths copied whole. It shares nothing with the program but the document.
 */
final class Model {
  static final int NONE = -1;

  static final class Code implements Cloneable {
    int m, n, k, c, poly, erase = 500, list = 4;
    boolean[] kept;
    int[] sums;

    Code copy() {
      Code d = new Code();
      d.m = m; d.n = n; d.k = k; d.c = c; d.poly = poly; d.erase = erase; d.list = list;
      d.kept = kept.clone();
      d.sums = sums.clone();
      return d;
    }
  }

  static final class Path {
    int metric;
    int[] bits;
    int ahead;
    List<int[]> sumsStack = new ArrayList<>();
    List<int[]> bitsStack = new ArrayList<>();

    Path copy() {
      Path p = new Path();
      p.metric = metric;
      p.bits = bits.clone();
      for (int[] s : sumsStack) p.sumsStack.add(s.clone());
      for (int[] s : bitsStack) p.bitsStack.add(s.clone());
      return p;
    }

    int[] sums() { return sumsStack.get(sumsStack.size() - 1); }
    int[] popSums() { return sumsStack.remove(sumsStack.size() - 1); }
    int[] popBits() { return bitsStack.remove(bitsStack.size() - 1); }
  }

  static final class Reading {
    final Code code;
    final int list;
    final boolean cut;
    int flip = NONE;
    List<Path> paths = new ArrayList<>();
    int left, right, decided;
    int[][] metricAt, bitAt, aheadAt;
    int[] great;
    int chosen;
    boolean holds;

    Reading(Code code, int[] sums, int list, boolean cut, int flip) {
      this.code = code;
      this.list = list;
      this.cut = cut;
      this.flip = flip;
      metricAt = new int[code.n][];
      bitAt = new int[code.n][];
      aheadAt = new int[code.n][];
      great = new int[code.n];
      Path p = new Path();
      p.bits = new int[code.n];
      p.sumsStack.add(Arrays.copyOf(sums, code.n));
      paths.add(p);
      node(0, code.n);
      holds = false;
      for (int i = 0; i < paths.size() && !holds; i++) {
        if (Model.holds(code, paths.get(i).bits)) { chosen = i; holds = true; }
      }
    }

    /** Takes the sums of the node from each path's stack, leaves its bits there. */
    void node(int from, int size) {
      if (cut && allFrozen(from, size)) {
        for (Path p : paths) {
          for (int s : p.popSums()) if (s < 0) p.metric += -s;
          p.bitsStack.add(new int[size]);
        }
        return;
      }
      if (cut && list == 1 && nothingFrozen(from, size) && noneZero(paths.get(0).sums())) {
        Path p = paths.get(0);
        int[] s = p.popSums();
        int[] b = new int[size];
        for (int i = 0; i < size; i++) b[i] = s[i] < 0 ? 1 : 0;
        p.bitsStack.add(b.clone());
        butterflies(b);
        System.arraycopy(b, 0, p.bits, from, size);
        return;
      }
      if (size == 1) { channel(from); return; }
      int half = size / 2;
      for (Path p : paths) {
        int[] s = p.sums();
        int[] l = new int[half];
        for (int i = 0; i < half; i++) { l[i] = lesser(s[i], s[i + half]); left++; }
        p.sumsStack.add(l);
      }
      node(from, half);
      for (Path p : paths) {
        int[] s = p.sums();
        int[] u = p.bitsStack.get(p.bitsStack.size() - 1);
        int[] r = new int[half];
        for (int i = 0; i < half; i++) { r[i] = u[i] == 0 ? s[i + half] + s[i] : s[i + half] - s[i]; right++; }
        p.sumsStack.add(r);
      }
      node(from + half, half);
      for (Path p : paths) {
        int[] r = p.popBits();
        int[] l = p.popBits();
        int[] b = new int[size];
        for (int i = 0; i < half; i++) { b[i] = l[i] ^ r[i]; b[i + half] = r[i]; }
        p.popSums();
        p.bitsStack.add(b);
      }
    }

    void channel(int i) {
      decided++;
      great[i] = Math.abs(paths.get(0).sums()[0]);
      List<Path> next = new ArrayList<>();
      for (int p = 0; p < paths.size(); p++) {
        Path path = paths.get(p);
        int s = path.popSums()[0];
        int natural = s < 0 ? 1 : 0;
        for (int bit = 0; bit <= (code.kept[i] ? 1 : 0); bit++) {
          if (i == flip && bit == natural) continue;
          Path q = path.copy();
          q.ahead = p;
          q.bits[i] = bit;
          q.bitsStack.add(new int[] {bit});
          if (bit == 0 && s < 0) q.metric += -s;
          if (bit == 1 && s > 0) q.metric += s;
          next.add(q);
        }
      }
      if (code.kept[i]) {
        next.sort((a, b) -> Integer.compare(a.metric, b.metric));
        while (next.size() > list) next.remove(next.size() - 1);
      }
      paths = next;
      int many = paths.size();
      metricAt[i] = new int[many];
      bitAt[i] = new int[many];
      aheadAt[i] = new int[many];
      for (int p = 0; p < many; p++) {
        metricAt[i][p] = paths.get(p).metric;
        bitAt[i][p] = paths.get(p).bits[i];
        aheadAt[i][p] = paths.get(p).ahead;
      }
    }

    boolean allFrozen(int from, int size) {
      for (int i = from; i < from + size; i++) if (code.kept[i]) return false;
      return true;
    }

    boolean nothingFrozen(int from, int size) {
      for (int i = from; i < from + size; i++) if (!code.kept[i]) return false;
      return true;
    }

    static boolean noneZero(int[] s) {
      for (int v : s) if (v == 0) return false;
      return true;
    }
  }

  static int lesser(int a, int b) {
    int v = Math.min(Math.abs(a), Math.abs(b));
    return (a < 0 ? 1 : 0) + (b < 0 ? 1 : 0) == 1 ? -v : v;
  }

  static void butterflies(int[] bits) {
    for (int h = 1; h < bits.length; h *= 2)
      for (int i = 0; i < bits.length; i++)
        if (i / h % 2 == 0) bits[i] ^= bits[i + h];
  }

  static int[] checkOf(Code code, int[] message) {
    // r as a row of bits, bit 0 first
    int[] r = new int[code.c];
    for (int i = 0; i < code.k; i++) {
      if (code.c == 0) continue;
      boolean t = r[code.c - 1] != message[i];
      for (int j = code.c - 1; j > 0; j--) r[j] = r[j - 1];
      r[0] = 0;
      if (t) for (int j = 0; j < code.c; j++) r[j] ^= code.poly >> j & 1;
    }
    return r;
  }

  static int[] channelsOf(Code code, long message) {
    int[] mes = bitsOf(message, code.k);
    int[] r = checkOf(code, mes);
    int[] u = new int[code.n];
    int at = 0;
    for (int i = 0; i < code.n; i++) {
      if (!code.kept[i]) continue;
      u[i] = at < code.k ? mes[at] : r[code.c - 1 - (at - code.k)];
      at++;
    }
    return u;
  }

  static int[] bitsOf(long v, int n) {
    int[] b = new int[n];
    for (int i = 0; i < n; i++) b[i] = (int) (v >>> i & 1);
    return b;
  }

  static long asLong(int[] bits) {
    long v = 0;
    for (int i = 0; i < bits.length; i++) if (bits[i] != 0) v |= 1L << i;
    return v;
  }

  static long wordOf(Code code, long message) {
    int[] u = channelsOf(code, message);
    butterflies(u);
    return asLong(u);
  }

  static long messageOf(Code code, int[] u) {
    int[] mes = new int[code.k];
    int at = 0;
    for (int i = 0; i < code.n; i++) if (code.kept[i] && at < code.k) mes[at++] = u[i];
    return asLong(mes);
  }

  static boolean holds(Code code, int[] u) {
    return Arrays.equals(channelsOf(code, messageOf(code, u)), u);
  }

  static int distanceOf(Code code, long word) {
    int d = 0;
    for (int i = 0; i < code.n; i++) {
      int says = Integer.signum(code.sums[i]);
      int bit = (int) (word >>> i & 1);
      if (says > 0 && bit == 1 || says < 0 && bit == 0) d += Math.abs(code.sums[i]);
    }
    return d;
  }

  static long badness(Code code, int i) {
    long z = code.erase * 1000000L;
    String bits = Integer.toBinaryString(code.n + i).substring(1);
    for (char b : bits.toCharArray()) {
      if (b == '0') z = 2 * z - z * z / 1000000000L;
      else z = z * z / 1000000000L;
    }
    return z;
  }

  // ---- the text: first cut into tokens, then the tokens are asked ----

  static final class Fault extends RuntimeException {
    final int value;
    Fault(int place, int kind) { value = 8 * place + kind; }
  }

  static final class Tokens {
    final String text;
    int place = 0;
    Tokens(String text) { this.text = text; }

    int peek() {
      while (place < text.length() && text.charAt(place) == ' ') place++;
      return place < text.length() ? text.charAt(place) : -1;
    }

    String word() {
      peek();
      int from = place;
      while (place < text.length() && text.charAt(place) >= 'a' && text.charAt(place) <= 'z') place++;
      if (from == place) throw new Fault(from, 1);
      return text.substring(from, place);
    }

    int number(int least, int most) {
      peek();
      int from = place;
      while (place < text.length() && text.charAt(place) >= '0' && text.charAt(place) <= '9') place++;
      if (from == place) throw new Fault(from, 1);
      java.math.BigInteger v = new java.math.BigInteger(text.substring(from, place));
      if (v.compareTo(java.math.BigInteger.valueOf(least)) < 0 || v.compareTo(java.math.BigInteger.valueOf(most)) > 0) throw new Fault(from, 2);
      return v.intValue();
    }
  }

  static Code parse(String text) {
    Tokens t = new Tokens(text);
    Code code = new Code();
    t.peek();
    int at = t.place;
    if (!t.word().equals("size")) throw new Fault(at, 1);
    code.m = t.number(2, 6);
    code.n = 1 << code.m;
    code.kept = new boolean[code.n];
    code.sums = new int[code.n];
    List<String> told = new ArrayList<>();
    int infos = 0;
    while (t.peek() == ';') {
      t.place++;
      t.peek();
      at = t.place;
      String w = t.word();
      if (!List.of("keep", "info", "check", "erase", "list").contains(w)) throw new Fault(at, 1);
      if (told.contains(w) || w.equals("keep") && told.contains("info") || w.equals("info") && told.contains("keep")) throw new Fault(at, 3);
      told.add(w);
      if (w.equals("keep")) code.k = t.number(1, 64);
      if (w.equals("erase")) code.erase = t.number(1, 999);
      if (w.equals("list")) code.list = t.number(1, 8);
      if (w.equals("check")) { code.c = t.number(0, 8); code.poly = t.number(0, 255); }
      if (w.equals("info")) {
        int last = t.number(0, code.n - 1);
        code.kept[last] = true;
        infos = 1;
        while (t.peek() == ',') {
          t.place++;
          last = t.number(last + 1, code.n - 1);
          code.kept[last] = true;
          infos++;
        }
      }
    }
    if (t.peek() != -1) throw new Fault(t.place, 1);
    boolean keep = told.contains("keep");
    boolean info = told.contains("info");
    if (!keep && !info) throw new Fault(text.length(), 4);
    if (info) {
      if (infos < code.c + 1) throw new Fault(text.length(), 4);
      code.k = infos - code.c;
      return code;
    }
    if (code.k + code.c > code.n) throw new Fault(text.length(), 4);
    List<Integer> all = new ArrayList<>();
    for (int i = 0; i < code.n; i++) all.add(i);
    all.sort((a, b) -> badness(code, a) != badness(code, b) ? Long.compare(badness(code, a), badness(code, b)) : b - a);
    for (int i = 0; i < code.k + code.c; i++) code.kept[all.get(i)] = true;
    return code;
  }

  // ---- the object ----

  private final List<Integer> tape = new ArrayList<>();
  private Code code = null;
  private final List<Code> history = new ArrayList<>();
  private final Code[] images = new Code[2];
  private final boolean[] made = new boolean[2];
  private long x = 0;

  private void act() {
    history.add(code == null ? null : code.copy());
    if (history.size() > 12) history.remove(0);
  }

  private boolean fits(long message) {
    if (code == null) return false;
    for (int i = code.k; i < 64; i++) if ((message >>> i & 1) != 0) return false;
    return true;
  }

  private boolean has(int channel) { return code != null && channel >= 0 && channel < code.n; }

  int feed(int... numbers) {
    if (tape.size() + 20 > 200) return NONE;
    for (int v : numbers) for (int s = 3; s >= 0; s--) tape.add(v >>> 8 * s & 255);
    return tape.size();
  }

  int end(int n) {
    if (n < 0 || n > tape.size()) return NONE;
    while (tape.size() > n) tape.remove(tape.size() - 1);
    return n;
  }

  int code() {
    StringBuilder b = new StringBuilder();
    for (int v : tape) b.append((char) v);
    tape.clear();
    try {
      Code told = parse(b.toString());
      act();
      code = told;
      return code.n;
    } catch (Fault f) {
      return -2 - f.value;
    }
  }

  long goodness(int channel) { return has(channel) ? badness(code, channel) : NONE; }

  int kept(int channel) {
    if (!has(channel)) return NONE;
    if (!code.kept[channel]) return -2;
    int before = 0;
    for (int i = 0; i < channel; i++) if (code.kept[i]) before++;
    return before;
  }

  long word(long message) { return fits(message) ? wordOf(code, message) : 0; }
  int check(long message) { return fits(message) ? (int) asLong(checkOf(code, bitsOf(message, code.k))) : NONE; }

  long systematic(long message) {
    if (!fits(message) || code.c > 0) return -1;
    int[] put = new int[code.n];
    int at = 0;
    for (int i = 0; i < code.n; i++) if (code.kept[i]) put[i] = (int) (message >>> at++ & 1);
    int[] w = put.clone();
    butterflies(w);
    for (int i = 0; i < code.n; i++) if (!code.kept[i]) w[i] = 0;
    butterflies(w);
    for (int i = 0; i < code.n; i++) if (code.kept[i] && w[i] != put[i]) return -1;
    return asLong(w);
  }

  int row(int channel) {
    if (code == null) return NONE;
    if (channel == NONE) {
      int least = Integer.MAX_VALUE;
      for (int i = 0; i < code.n; i++) if (code.kept[i]) least = Math.min(least, row(i));
      return least;
    }
    if (!has(channel)) return NONE;
    int[] u = new int[code.n];
    u[channel] = 1;
    butterflies(u);
    return Arrays.stream(u).sum();
  }

  int hear() {
    if (code == null || tape.size() != code.n) return NONE;
    act();
    for (int i = 0; i < code.n; i++) {
      int v = tape.get(i);
      code.sums[i] = v == 128 ? -127 : v > 128 ? v - 256 : v;
    }
    tape.clear();
    return code.n;
  }

  int tell(int bit, int sum) {
    if (!has(bit) || sum < -127 || sum > 127) return Integer.MIN_VALUE;
    act();
    int was = code.sums[bit];
    code.sums[bit] = sum;
    return was;
  }

  private int draw(int k) {
    x = (x * 1103515245L + 12345) % 2147483648L;
    return (int) (x / 65536 % k);
  }

  private int[] sent(long message, int a, int b) {
    long w = wordOf(code, message);
    int[] s = new int[code.n];
    for (int i = 0; i < code.n; i++) {
      int v = (w >>> i & 1) == 1 ? -a : a;
      v += draw(2 * b + 1) - b;
      s[i] = v > 127 ? 127 : v < -127 ? -127 : v;
    }
    return s;
  }

  int send(long message, int a, int b) {
    if (!fits(message) || a < 0 || a > 100 || b < 0 || b > 100) return NONE;
    act();
    code.sums = sent(message, a, b);
    return code.n;
  }

  int sum(int bit) { return has(bit) ? code.sums[bit] : Integer.MIN_VALUE; }
  int distance(long word) { return code == null ? NONE : distanceOf(code, word); }

  int list(int n) {
    if (code == null || n < 1 || n > 8 || n == code.list) return NONE;
    act();
    int was = code.list;
    code.list = n;
    return was;
  }

  private Reading reading(int list, boolean cut) { return new Reading(code, code.sums, list, cut, NONE); }

  long read() {
    if (code == null) return 0;
    Reading r = reading(code.list, false);
    return messageOf(code, r.paths.get(r.chosen).bits);
  }

  int told(int what) {
    if (code == null || what < 0 || what > 3) return NONE;
    Reading r = reading(code.list, false);
    return new int[] {r.paths.get(r.chosen).metric, r.holds ? 1 : 0, r.chosen, r.paths.size()}[what];
  }

  int path(int i, int k, int what) {
    if (!has(i) || k < 0 || what < 0 || what > 2) return NONE;
    Reading r = reading(code.list, false);
    if (k >= r.metricAt[i].length) return -2;
    return new int[] {r.metricAt[i][k], r.bitAt[i][k], r.aheadAt[i][k]}[what];
  }

  long message(int k) {
    if (code == null || k < 0) return -1;
    Reading r = reading(code.list, false);
    return k < r.paths.size() ? messageOf(code, r.paths.get(k).bits) : -1;
  }

  int work(int list, boolean cut, int what) {
    if (code == null || list < 1 || list > 8 || what < 0 || what > 3) return NONE;
    Reading r = reading(list, cut);
    return new int[] {r.left, r.right, r.decided, r.paths.get(0).metric}[what];
  }

  int grown(int what) {
    if (code == null || what < 0 || what > 2) return NONE;
    for (int l : new int[] {1, 2, 4, 8}) {
      Reading r = reading(l, false);
      if (r.holds || l == 8) return new int[] {l, r.holds ? 1 : 0, r.paths.get(r.chosen).metric}[what];
    }
    return NONE;
  }

  int flipped(int what) {
    if (code == null || what < 0 || what > 3) return NONE;
    Reading first = reading(1, false);
    if (first.holds) return new int[] {0, NONE, first.paths.get(0).metric, 1}[what];
    List<Integer> order = new ArrayList<>();
    for (int i = 0; i < code.n; i++) if (code.kept[i]) order.add(i);
    order.sort((a, b) -> Integer.compare(first.great[a], first.great[b]));
    int tried = 0;
    for (int c : order) {
      if (tried == 12) break;
      tried++;
      Reading r = new Reading(code, code.sums, 1, false, c);
      if (r.holds) return new int[] {tried, c, r.paths.get(0).metric, 1}[what];
    }
    return new int[] {tried, NONE, first.paths.get(0).metric, 0}[what];
  }

  static final class Beginning {
    int metric;
    int[] bits;
    Beginning(int metric, int[] bits) { this.metric = metric; this.bits = bits; }

    boolean ahead(Beginning o) {
      if (metric != o.metric) return metric < o.metric;
      if (bits.length != o.bits.length) return bits.length > o.bits.length;
      return Arrays.compare(bits, o.bits) < 0;
    }
  }

  /** The sum of the next channel behind a beginning, by the node's halves. */
  private static int next(int[] sums, int[] bits) {
    if (sums.length == 1) return sums[0];
    int half = sums.length / 2;
    int[] s = new int[half];
    if (bits.length < half) {
      for (int i = 0; i < half; i++) s[i] = lesser(sums[i], sums[i + half]);
      return next(s, bits);
    }
    int[] u = Arrays.copyOf(bits, half);
    butterflies(u);
    for (int i = 0; i < half; i++) s[i] = u[i] == 0 ? sums[i + half] + sums[i] : sums[i + half] - sums[i];
    return next(s, Arrays.copyOfRange(bits, half, bits.length));
  }

  private int soughtWent;

  private Beginning seek() {
    List<Beginning> all = new ArrayList<>();
    all.add(new Beginning(0, new int[0]));
    for (soughtWent = 1; soughtWent <= 1500; soughtWent++) {
      int best = 0;
      for (int i = 1; i < all.size(); i++) if (all.get(i).ahead(all.get(best))) best = i;
      Beginning b = all.remove(best);
      int d = b.bits.length;
      if (d == code.n) {
        if (holds(code, b.bits)) return b;
        continue;
      }
      int s = next(code.sums, b.bits);
      for (int bit = 0; bit <= (code.kept[d] ? 1 : 0); bit++) {
        int[] more = Arrays.copyOf(b.bits, d + 1);
        more[d] = bit;
        all.add(new Beginning(b.metric + (bit == 0 && s < 0 || bit == 1 && s > 0 ? Math.abs(s) : 0), more));
      }
    }
    return null;
  }

  int sought(int what) {
    if (code == null || what < 0 || what > 1) return NONE;
    Beginning b = seek();
    return b == null ? -3 : what == 0 ? b.metric : soughtWent;
  }

  long soughtMessage() {
    if (code == null) return -1;
    Beginning b = seek();
    return b == null ? -1 : messageOf(code, b.bits);
  }

  int nearest(int what) {
    if (code == null || what < 0 || what > 1) return NONE;
    if (code.k > 12) return -3;
    int best = 0;
    for (int i = 1; i < 1 << code.k; i++)
      if (distanceOf(code, wordOf(code, i)) < distanceOf(code, wordOf(code, best))) best = i;
    return what == 0 ? best : distanceOf(code, wordOf(code, best));
  }

  int weights(int w) {
    if (code == null || w < 0 || w > code.n) return NONE;
    if (code.k > 12) return -3;
    int many = 0;
    for (int i = 0; i < 1 << code.k; i++) if (Long.bitCount(wordOf(code, i)) == w) many++;
    return many;
  }

  int draws(int v) {
    if (v < 0) return NONE;
    int was = (int) x;
    x = v;
    return was;
  }

  int frames(int n, int a, int b, int what) {
    if (code == null || n < 1 || n > 40 || a < 0 || a > 100 || b < 0 || b > 100 || what < 0 || what > 1) return NONE;
    long keep = x;
    int wrong = 0;
    int held = 0;
    for (int f = 0; f < n; f++) {
      int[] mes = new int[code.k];
      for (int i = 0; i < code.k; i++) mes[i] = draw(2);
      Reading r = new Reading(code, sent(asLong(mes), a, b), code.list, false, NONE);
      if (messageOf(code, r.paths.get(r.chosen).bits) != asLong(mes)) {
        wrong++;
        if (r.holds) held++;
      }
    }
    x = keep;
    return what == 0 ? wrong : held;
  }

  int undo() {
    if (history.isEmpty()) return NONE;
    code = history.remove(history.size() - 1);
    return history.size();
  }

  int image(int k) {
    if (k != 0 && k != 1) return NONE;
    images[k] = code == null ? null : code.copy();
    made[k] = true;
    return code == null ? 0 : code.n;
  }

  int back(int k) {
    if (k != 0 && k != 1 || !made[k]) return NONE;
    code = images[k] == null ? null : images[k].copy();
    history.clear();
    return code == null ? 0 : code.n;
  }

  int count(int what) {
    if (what == 6) return history.size();
    if (what == 7) return (int) x;
    if (what == 8) return tape.size();
    if (what < 0 || what > 9) return NONE;
    if (code == null) return 0;
    if (what == 9) {
      int zeros = 0;
      for (int s : code.sums) if (s == 0) zeros++;
      return zeros;
    }
    return new int[] {code.n, code.k, code.c, code.poly, code.erase, code.list}[what];
  }
}
