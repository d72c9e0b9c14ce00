import java.util.ArrayList;
import java.util.List;

/**
 * What the document asks of readings, by distances alone: no sums go down any node here. The metric of a beginning is
 * the least distance of all words that begin so (whatever stands behind, frozen or not), since each node of size 1
 * adds just what the better of its two bits is nearer by.
 */
final class ByDistance {
  final int n;
  final boolean[] kept;
  final int c;
  final int poly;
  final int[] sums;
  private final int keptMany;

  /** Of each depth, for each beginning of so many channels (channel 0 the lowest bit). */
  private final int[][] metric;

  ByDistance(boolean[] kept, int c, int poly, int[] sums) {
    this.n = kept.length;
    this.kept = kept;
    this.c = c;
    this.poly = poly;
    this.sums = sums;
    int many = 0;
    for (boolean k : kept) if (k) many++;
    keptMany = many;
    metric = new int[n + 1][];
    metric[n] = new int[1 << n];
    for (int u = 0; u < 1 << n; u++) metric[n][u] = distance(wordOf(u));
    for (int d = n - 1; d >= 0; d--) {
      metric[d] = new int[1 << d];
      for (int u = 0; u < 1 << d; u++) metric[d][u] = Math.min(metric[d + 1][u], metric[d + 1][u | 1 << d]);
    }
  }

  int k() { return keptMany - c; }

  static long wordOf(int channels) {
    long word = 0;
    for (int i = 0; i < 31; i++) if ((channels >> i & 1) != 0) word ^= Codes.row(i);
    return word;
  }

  int distance(long word) {
    int far = 0;
    for (int i = 0; i < n; i++) if (sums[i] != 0 && (word >> i & 1) == (sums[i] > 0 ? 1 : 0)) far += Math.abs(sums[i]);
    return far;
  }

  int message(int channels) {
    int message = 0;
    int at = 0;
    for (int i = 0; i < n; i++) {
      if (!kept[i]) continue;
      if (at < k()) message |= (channels >> i & 1) << at;
      at++;
    }
    return message;
  }

  int check(int message) {
    int r = 0;
    for (int i = 0; i < k() && c > 0; i++) {
      boolean unlike = (r >> c - 1) != (message >> i & 1);
      r = r * 2 % (1 << c);
      if (unlike) r ^= poly % (1 << c);
    }
    return r;
  }

  /** The channels of a message and its check bits. */
  int channels(int message) {
    String bits = "";
    for (int i = 0; i < k(); i++) bits += message >> i & 1;
    int r = check(message);
    for (int i = c - 1; i >= 0; i--) bits += r >> i & 1;
    int channels = 0;
    int at = 0;
    for (int i = 0; i < n; i++) if (kept[i] && bits.charAt(at++) == '1') channels |= 1 << i;
    return channels;
  }

  boolean holds(int channels) { return channels(message(channels)) == channels; }

  /** A reading: rows behind each channel, and what is chosen. */
  final class Reading {
    final List<int[]> metrics = new ArrayList<>();
    final List<int[]> bits = new ArrayList<>();
    final List<int[]> aheads = new ArrayList<>();
    final int[] sure = new int[n];
    int[] paths = {0};
    int chosen = 0;
    boolean holds = false;

    Reading(int list, int flip) {
      for (int i = 0; i < n; i++) {
        sure[i] = Math.abs(metric[i + 1][paths[0]] - metric[i + 1][paths[0] | 1 << i]);
        List<int[]> next = new ArrayList<>();
        for (int p = 0; p < paths.length; p++) split(next, i, p, flip);
        if (kept[i]) next.sort((a, b) -> Integer.compare(a[0], b[0]));
        while (next.size() > list) next.remove(next.size() - 1);
        goOn(i, next);
      }
      for (int p = 0; p < paths.length && !holds; p++) {
        if (holds(paths[p])) {
          chosen = p;
          holds = true;
        }
      }
    }

    private void split(List<int[]> next, int i, int p, int flip) {
      int zero = metric[i + 1][paths[p]];
      int one = metric[i + 1][paths[p] | 1 << i];
      int likely = one < zero ? 1 : 0;
      if (!kept[i] || i != flip || likely == 1) next.add(new int[] {zero, 0, p});
      if (kept[i] && (i != flip || likely == 0)) next.add(new int[] {one, 1, p});
    }

    private void goOn(int i, List<int[]> next) {
      int[] behind = new int[next.size()];
      int[][] rows = new int[3][next.size()];
      for (int p = 0; p < behind.length; p++) {
        int[] row = next.get(p);
        behind[p] = paths[row[2]] | row[1] << i;
        for (int j = 0; j < 3; j++) rows[j][p] = row[j];
      }
      metrics.add(rows[0]);
      bits.add(rows[1]);
      aheads.add(rows[2]);
      paths = behind;
    }

    int metricOf(int p) { return metric[n][paths[p]]; }
  }

  /** Tried, channel, metric, holds. */
  int[] flipped() {
    Reading first = new Reading(1, -1);
    if (first.holds) return new int[] {0, -1, first.metricOf(0), 1};
    List<Integer> order = new ArrayList<>();
    for (int i = 0; i < n; i++) if (kept[i]) order.add(i);
    order.sort((a, b) -> Integer.compare(first.sure[a], first.sure[b]));
    for (int t = 0; t < order.size() && t < 12; t++) {
      Reading r = new Reading(1, order.get(t));
      if (r.holds) return new int[] {t + 1, order.get(t), r.metricOf(0), 1};
    }
    return new int[] {Math.min(12, order.size()), -1, first.metricOf(0), 0};
  }

  /** Metric, how many went on, message; null: unknown. */
  int[] sought() {
    List<int[]> beginnings = new ArrayList<>();
    beginnings.add(new int[] {0, 0});
    for (int went = 1; went <= 1500; went++) {
      int best = 0;
      for (int b = 1; b < beginnings.size(); b++) if (isAhead(beginnings.get(b), beginnings.get(best))) best = b;
      int[] it = beginnings.remove(best);
      int d = it[0];
      if (d == n && holds(it[1])) return new int[] {metric[n][it[1]], went, message(it[1])};
      if (d == n) continue;
      beginnings.add(new int[] {d + 1, it[1]});
      if (kept[d]) beginnings.add(new int[] {d + 1, it[1] | 1 << d});
    }
    return null;
  }

  private boolean isAhead(int[] a, int[] b) {
    int far = metric[a[0]][a[1]] - metric[b[0]][b[1]];
    if (far != 0) return far < 0;
    if (a[0] != b[0]) return a[0] > b[0];
    int i = 0;
    while ((a[1] >> i & 1) == (b[1] >> i & 1)) i++;
    return (a[1] >> i & 1) == 0;
  }

  /** Message and distance. */
  int[] nearest() {
    int best = 0;
    for (int m = 1; m < 1 << k(); m++) if (metric[n][channels(m)] < metric[n][channels(best)]) best = m;
    return new int[] {best, metric[n][channels(best)]};
  }

  /** How many paths there are ahead of a channel: doubled by each kept one, as far as the list goes. */
  int pathsAhead(int channel, int list) {
    int many = 1;
    for (int i = 0; i < channel; i++) if (kept[i]) many = Math.min(list, 2 * many);
    return many;
  }

  /** Left sums, right sums, channels one by one; cut only with a list above 1, where free nodes are gone down. */
  int[] work(int from, int size, int list, boolean cut) {
    boolean frozen = true;
    for (int i = from; i < from + size; i++) frozen &= !kept[i];
    if (cut && frozen) return new int[3];
    if (size == 1) return new int[] {0, 0, 1};
    int half = size / 2;
    int[] left = work(from, half, list, cut);
    int[] right = work(from + half, half, list, cut);
    return new int[] {
      left[0] + right[0] + half * pathsAhead(from, list),
      left[1] + right[1] + half * pathsAhead(from + half, list),
      left[2] + right[2]
    };
  }
}
