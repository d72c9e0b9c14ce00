/** Butterfly codes: told by a text, heard as sums, read back with a list of paths. */
public final class ButterflyCode {
  public static final int NONE = -1;

  private static final int FROZEN = -2;
  private static final int NOT_SO_MANY = -2;
  private static final int UNKNOWN = -3;
  private static final int K_TOO_GREAT = -3;
  private static final int NO_SUM = -2147483648;
  private static final long NO_WORD = -1L;

  private static final int MOST_LEVELS = 6;
  private static final int MOST_CHANNELS = 64;
  private static final int MOST_PATHS = 8;
  private static final int MOST_SUM = 127;
  private static final int MOST_STRENGTH = 100;
  private static final int MOST_FRAMES = 40;
  private static final int MOST_UNDONE = 12;
  private static final int MOST_IMAGES = 2;
  private static final int MOST_SEARCHED_K = 12;

  /** Of each level those bits that have a partner above them in a butterfly. */
  private static final long[] LOWER = {
    0x5555555555555555L, 0x3333333333333333L, 0x0f0f0f0f0f0f0f0fL,
    0x00ff00ff00ff00ffL, 0x0000ffff0000ffffL, 0x00000000ffffffffL
  };

  private final State now = new State();
  private final State[] past = new State[MOST_UNDONE];
  private int pastEnd = 0;
  private int pastCount = 0;
  private final State[] images = new State[MOST_IMAGES];
  private final boolean[] imageMade = new boolean[MOST_IMAGES];
  private final Tape tape = new Tape();
  private final CodeText text = new CodeText();
  private final Reader reader = new Reader();
  private final Flips flips = new Flips();
  private final Seeker seeker = new Seeker();
  private final AllWords words = new AllWords();
  private final int[] frameSums = new int[MOST_CHANNELS];
  private int drawn = 0;

  public ButterflyCode() {
    for (int i = 0; i < MOST_UNDONE; i++) {
      past[i] = new State();
    }
    for (int i = 0; i < MOST_IMAGES; i++) {
      images[i] = new State();
    }
  }

  // ---- the tape ----

  public int feed(int a, int b, int c, int d, int e) {
    if (tape.length + 20 > Tape.MOST_BYTES) {
      return NONE;
    }
    tape.append(a);
    tape.append(b);
    tape.append(c);
    tape.append(d);
    tape.append(e);
    return tape.length;
  }

  public int end(int n) {
    if (n < 0 || n > tape.length) {
      return NONE;
    }
    tape.length = n;
    return n;
  }

  // ---- the code ----

  public int code() {
    int fault = text.parse(tape);
    tape.length = 0;
    if (fault != 0) {
      return -2 - fault;
    }
    remember();
    now.copyFrom(text.told);
    return now.n;
  }

  public long goodness(int channel) {
    return now.hasChannel(channel) ? now.badness(channel) : NONE;
  }

  public int kept(int channel) {
    if (!now.hasChannel(channel)) {
      return NONE;
    }
    if (!now.isKept(channel)) {
      return FROZEN;
    }
    return Long.bitCount(now.keptSet & lowBits(channel));
  }

  public long word(long message) {
    return now.fits(message) ? now.encode(message) : 0L;
  }

  public int check(long message) {
    return now.fits(message) ? now.checkBits(message) : NONE;
  }

  public long systematic(long message) {
    if (!now.fits(message) || now.c != 0) {
      return NO_WORD;
    }
    long put = now.deposit(message);
    long channels = butterfly(put, now.m) & now.keptSet;
    long found = butterfly(channels, now.m);
    return (found & now.keptSet) == put ? found : NO_WORD;
  }

  public int row(int channel) {
    if (channel == NONE) {
      return leastRow();
    }
    return now.hasChannel(channel) ? rowWeight(channel) : NONE;
  }

  private int rowWeight(int channel) {
    return Long.bitCount(butterfly(1L << channel, now.m));
  }

  private int leastRow() {
    int least = NONE;
    for (int i = 0; i < now.n; i++) {
      if (now.isKept(i) && (least == NONE || rowWeight(i) < least)) {
        least = rowWeight(i);
      }
    }
    return least;
  }

  // ---- what is heard ----

  public int hear() {
    if (!now.isTold() || tape.length != now.n) {
      return NONE;
    }
    remember();
    for (int i = 0; i < now.n; i++) {
      now.sums[i] = Math.max(-MOST_SUM, tape.bytes[i]);
    }
    tape.length = 0;
    return now.n;
  }

  public int tell(int bit, int sum) {
    if (!now.hasChannel(bit) || sum < -MOST_SUM || sum > MOST_SUM) {
      return NO_SUM;
    }
    remember();
    int before = now.sums[bit];
    now.sums[bit] = sum;
    return before;
  }

  public int send(long message, int a, int b) {
    if (!now.fits(message) || !isStrength(a) || !isStrength(b)) {
      return NONE;
    }
    remember();
    transmit(now.encode(message), a, b, now.sums);
    return now.n;
  }

  public int sum(int bit) {
    return now.hasChannel(bit) ? now.sums[bit] : NO_SUM;
  }

  public int distance(long word) {
    return now.isTold() ? now.distanceOf(word) : NONE;
  }

  private static boolean isStrength(int a) {
    return a >= 0 && a <= MOST_STRENGTH;
  }

  private void transmit(long word, int a, int b, int[] into) {
    for (int i = 0; i < now.n; i++) {
      int clean = (word >>> i & 1L) == 0L ? a : -a;
      int noisy = clean + draw(2 * b + 1) - b;
      into[i] = Math.max(-MOST_SUM, Math.min(MOST_SUM, noisy));
    }
  }

  private int draw(int k) {
    drawn = (int) (drawn * 1103515245L + 12345L & 0x7fffffffL);
    return k > 0 ? drawn / 65536 % k : 0;
  }

  // ---- reading ----

  public int list(int n) {
    if (!now.isTold() || !isList(n) || n == now.list) {
      return NONE;
    }
    remember();
    int before = now.list;
    now.list = n;
    return before;
  }

  public long read() {
    if (!now.isTold()) {
      return 0L;
    }
    readHeard();
    return now.messageOf(reader.paths.bits[reader.chosen]);
  }

  public int told(int what) {
    if (!now.isTold() || what < 0 || what > 3) {
      return NONE;
    }
    readHeard();
    switch (what) {
      case 0:
        return reader.paths.metrics[reader.chosen];
      case 1:
        return reader.holds ? 1 : 0;
      case 2:
        return reader.chosen;
      default:
        return reader.paths.count;
    }
  }

  public int path(int i, int k, int what) {
    if (!now.hasChannel(i) || k < 0 || what < 0 || what > 2) {
      return NONE;
    }
    readHeard();
    if (k >= reader.trace.counts[i]) {
      return NOT_SO_MANY;
    }
    int at = i * MOST_PATHS + k;
    switch (what) {
      case 0:
        return reader.trace.metrics[at];
      case 1:
        return reader.trace.steps[at] & 1;
      default:
        return reader.trace.steps[at] >> 1;
    }
  }

  public long message(int k) {
    if (!now.isTold() || k < 0) {
      return NO_WORD;
    }
    readHeard();
    return k < reader.paths.count ? now.messageOf(reader.paths.bits[k]) : NO_WORD;
  }

  public int work(int list, boolean cut, int what) {
    if (!now.isTold() || !isList(list) || what < 0 || what > 3) {
      return NONE;
    }
    reader.run(now, now.sums, list, cut, NONE);
    switch (what) {
      case 0:
        return reader.leftWork;
      case 1:
        return reader.rightWork;
      case 2:
        return reader.decided;
      default:
        return reader.paths.metrics[0];
    }
  }

  private static boolean isList(int n) {
    return n >= 1 && n <= MOST_PATHS;
  }

  private void readHeard() {
    reader.run(now, now.sums, now.list, false, NONE);
  }

  // ---- other ways to read ----

  public int grown(int what) {
    if (!now.isTold() || what < 0 || what > 2) {
      return NONE;
    }
    int length = 1;
    reader.run(now, now.sums, length, false, NONE);
    for (int next = 2; next <= MOST_PATHS && !reader.holds; next *= 2) {
      length = next;
      reader.run(now, now.sums, length, false, NONE);
    }
    switch (what) {
      case 0:
        return length;
      case 1:
        return reader.holds ? 1 : 0;
      default:
        return reader.paths.metrics[reader.chosen];
    }
  }

  public int flipped(int what) {
    if (!now.isTold() || what < 0 || what > 3) {
      return NONE;
    }
    flips.run(now, reader);
    switch (what) {
      case 0:
        return flips.tried;
      case 1:
        return flips.channel;
      case 2:
        return flips.metric;
      default:
        return flips.holds ? 1 : 0;
    }
  }

  public int sought(int what) {
    if (!now.isTold() || what < 0 || what > 1) {
      return NONE;
    }
    seeker.run(now);
    if (!seeker.found) {
      return UNKNOWN;
    }
    return what == 0 ? seeker.metric : seeker.wentOn;
  }

  public long soughtMessage() {
    if (!now.isTold()) {
      return NO_WORD;
    }
    seeker.run(now);
    return seeker.found ? now.messageOf(seeker.channels) : NO_WORD;
  }

  // ---- all words ----

  public int nearest(int what) {
    if (!now.isTold() || what < 0 || what > 1) {
      return NONE;
    }
    if (now.k > MOST_SEARCHED_K) {
      return K_TOO_GREAT;
    }
    words.findNearest(now);
    return what == 0 ? words.message : words.leastDistance;
  }

  public int weights(int w) {
    if (!now.isTold() || w < 0 || w > now.n) {
      return NONE;
    }
    return now.k > MOST_SEARCHED_K ? K_TOO_GREAT : words.howManyWeigh(now, w);
  }

  // ---- draws ----

  public int draws(int x) {
    if (x < 0) {
      return NONE;
    }
    int before = drawn;
    drawn = x;
    return before;
  }

  public int frames(int n, int a, int b, int what) {
    if (!now.isTold() || n < 1 || n > MOST_FRAMES || what < 0 || what > 1) {
      return NONE;
    }
    if (!isStrength(a) || !isStrength(b)) {
      return NONE;
    }
    int before = drawn;
    int wrong = 0;
    int unseen = 0;
    for (int i = 0; i < n; i++) {
      if (!readsFrameRight(a, b)) {
        wrong++;
        unseen += reader.holds ? 1 : 0;
      }
    }
    drawn = before;
    return what == 0 ? wrong : unseen;
  }

  private boolean readsFrameRight(int a, int b) {
    long message = 0L;
    for (int i = 0; i < now.k; i++) {
      message |= (long) draw(2) << i;
    }
    transmit(now.encode(message), a, b, frameSums);
    reader.run(now, frameSums, now.list, false, NONE);
    return now.messageOf(reader.paths.bits[reader.chosen]) == message;
  }

  // ---- acts and images ----

  public int undo() {
    if (pastCount == 0) {
      return NONE;
    }
    pastEnd = (pastEnd + MOST_UNDONE - 1) % MOST_UNDONE;
    pastCount--;
    now.copyFrom(past[pastEnd]);
    return pastCount;
  }

  public int image(int k) {
    if (k < 0 || k >= MOST_IMAGES) {
      return NONE;
    }
    images[k].copyFrom(now);
    imageMade[k] = true;
    return now.n;
  }

  public int back(int k) {
    if (k < 0 || k >= MOST_IMAGES || !imageMade[k]) {
      return NONE;
    }
    now.copyFrom(images[k]);
    pastCount = 0;
    return now.n;
  }

  public int count(int what) {
    switch (what) {
      case 0:
        return now.n;
      case 1:
        return now.k;
      case 2:
        return now.c;
      case 3:
        return now.poly;
      case 4:
        return now.erase;
      case 5:
        return now.list;
      case 6:
        return pastCount;
      case 7:
        return drawn;
      case 8:
        return tape.length;
      case 9:
        return now.zeroSums();
      default:
        return NONE;
    }
  }

  /** Called ahead of every act, so that it can be undone. */
  private void remember() {
    past[pastEnd].copyFrom(now);
    pastEnd = (pastEnd + 1) % MOST_UNDONE;
    pastCount = Math.min(MOST_UNDONE, pastCount + 1);
  }

  // ---- bits ----

  /** The lowest bits of a long; a shift by 64 would be one by 0. */
  private static long lowBits(int howMany) {
    return howMany >= 64 ? -1L : (1L << howMany) - 1L;
  }

  /** Undoes itself, so it leads from channels to words and back. */
  private static long butterfly(long bits, int levels) {
    long joined = bits;
    for (int level = 0; level < levels && level < MOST_LEVELS; level++) {
      joined ^= joined >>> (1 << level) & LOWER[level];
    }
    return joined;
  }

  /** What a sum adds to a metric if the bit is this one. */
  private static int penalty(int sum, int bit) {
    int against = bit == 0 ? -sum : sum;
    return against > 0 ? against : 0;
  }

  private static int leftSum(int a, int b) {
    int least = Math.min(Math.abs(a), Math.abs(b));
    return a < 0 != b < 0 ? -least : least;
  }

  private static int rightSum(int a, int b, long leftBit) {
    return leftBit == 0L ? b + a : b - a;
  }

  /** All that an act changes and an image holds; n is 0 without a code. */
  private static final class State {
    int m = 0;
    int n = 0;
    int k = 0;
    int c = 0;
    int poly = 0;
    int erase = 0;
    int list = 0;
    long keptSet = 0L;
    final int[] sums = new int[MOST_CHANNELS];

    void copyFrom(State other) {
      m = other.m;
      n = other.n;
      k = other.k;
      c = other.c;
      poly = other.poly;
      erase = other.erase;
      list = other.list;
      keptSet = other.keptSet;
      System.arraycopy(other.sums, 0, sums, 0, MOST_CHANNELS);
    }

    boolean isTold() {
      return n > 0;
    }

    boolean hasChannel(int channel) {
      return channel >= 0 && channel < n;
    }

    boolean isKept(int channel) {
      return (keptSet >>> channel & 1L) != 0L;
    }

    /** False without a code, too. */
    boolean fits(long message) {
      return isTold() && (message & ~lowBits(k)) == 0L;
    }

    long badness(int channel) {
      long z = erase * 1000000L;
      for (int level = m - 1; level >= 0; level--) {
        long both = z * z / 1000000000L;
        z = (channel >> level & 1) == 0 ? 2L * z - both : both;
      }
      return z;
    }

    int checkBits(long message) {
      if (c == 0) {
        return 0;
      }
      int mask = (1 << c) - 1;
      int r = 0;
      for (int i = 0; i < k; i++) {
        int carried = r >> c - 1 & 1;
        int bit = (int) (message >>> i & 1L);
        r = 2 * r & mask;
        if (carried != bit) {
          r ^= poly & mask;
        }
      }
      return r;
    }

    /** The message with its check bits behind it, the highest of these first. */
    long checked(long message) {
      int r = checkBits(message);
      long all = message;
      for (int i = 0; i < c; i++) {
        all |= (long) (r >> c - 1 - i & 1) << k + i;
      }
      return all;
    }

    long deposit(long bits) {
      long channels = 0L;
      int next = 0;
      for (int i = 0; i < n; i++) {
        if (isKept(i)) {
          channels |= (bits >>> next & 1L) << i;
          next++;
        }
      }
      return channels;
    }

    long gather(long channels) {
      long bits = 0L;
      int next = 0;
      for (int i = 0; i < n; i++) {
        if (isKept(i)) {
          bits |= (channels >>> i & 1L) << next;
          next++;
        }
      }
      return bits;
    }

    long encode(long message) {
      return butterfly(deposit(checked(message)), m);
    }

    long messageOf(long channels) {
      return gather(channels) & lowBits(k);
    }

    boolean checkHolds(long channels) {
      long bits = gather(channels);
      return checked(bits & lowBits(k)) == bits;
    }

    int distanceOf(long word) {
      int far = 0;
      for (int i = 0; i < n; i++) {
        far += penalty(sums[i], (int) (word >>> i & 1L));
      }
      return far;
    }

    int zeroSums() {
      int zeros = 0;
      for (int i = 0; i < n; i++) {
        zeros += sums[i] == 0 ? 1 : 0;
      }
      return zeros;
    }
  }

  /** The bytes that were fed and not yet used. */
  private static final class Tape {
    static final int MOST_BYTES = 200;

    final byte[] bytes = new byte[MOST_BYTES];
    int length = 0;

    void append(int number) {
      for (int shift = 24; shift >= 0 && length < MOST_BYTES; shift -= 8) {
        bytes[length] = (byte) (number >> shift);
        length++;
      }
    }
  }

  /** Reads the text of a code from the tape; the first fault along it stops all. */
  private static final class CodeText {
    private static final int CANNOT_STAND = 1;
    private static final int WRONG_NUMBER = 2;
    private static final int TOLD_ALREADY = 3;
    private static final int WRONG_WHOLE = 4;

    private static final int UNKNOWN_WORD = 0;
    private static final int KEEP = 1;
    private static final int INFO = 2;
    private static final int CHECK = 3;
    private static final int ERASE = 4;
    private static final int LIST = 5;

    /** Far above every number that may stand, and far below what an int holds. */
    private static final int GREAT_NUMBER = 1000000;

    final State told = new State();
    private final long[] badness = new long[MOST_CHANNELS];
    private byte[] bytes = new byte[0];
    private int length = 0;
    private int place = 0;
    private int fault = 0;
    private int wordsTold = 0;

    /** The fault, or 0: then the code is in told. */
    int parse(Tape tape) {
      bytes = tape.bytes;
      length = Math.min(tape.length, bytes.length);
      place = 0;
      fault = 0;
      wordsTold = 0;
      setDefaults();
      parseSize();
      for (int line = 0; line < length && goesOn(); line++) {
        parseLine();
      }
      if (fault == 0) {
        finish();
      }
      return fault;
    }

    private void setDefaults() {
      told.m = 0;
      told.n = 0;
      told.k = 0;
      told.c = 0;
      told.poly = 0;
      told.erase = 500;
      told.list = 4;
      told.keptSet = 0L;
    }

    private void blame(int where, int kind) {
      if (fault == 0) {
        fault = 8 * where + kind;
      }
    }

    private void skipBlanks() {
      while (place < length && bytes[place] == ' ') {
        place++;
      }
    }

    /** Whether another line follows; a byte that is no semicolon is a fault. */
    private boolean goesOn() {
      skipBlanks();
      if (fault != 0 || place >= length) {
        return false;
      }
      if (bytes[place] != ';') {
        blame(place, CANNOT_STAND);
        return false;
      }
      place++;
      return true;
    }

    private void skipLetters() {
      while (place < length && bytes[place] >= 'a' && bytes[place] <= 'z') {
        place++;
      }
    }

    private boolean isWord(int begin, String name) {
      if (place - begin != name.length()) {
        return false;
      }
      for (int i = 0; i < name.length(); i++) {
        if (bytes[begin + i] != name.charAt(i)) {
          return false;
        }
      }
      return true;
    }

    private void parseSize() {
      skipBlanks();
      int begin = place;
      skipLetters();
      if (!isWord(begin, "size")) {
        blame(begin, CANNOT_STAND);
        return;
      }
      int m = number(2, MOST_LEVELS);
      if (fault == 0) {
        told.m = m;
        told.n = 1 << m;
      }
    }

    private int whichWord(int begin) {
      if (isWord(begin, "keep")) {
        return KEEP;
      }
      if (isWord(begin, "info")) {
        return INFO;
      }
      if (isWord(begin, "check")) {
        return CHECK;
      }
      if (isWord(begin, "erase")) {
        return ERASE;
      }
      return isWord(begin, "list") ? LIST : UNKNOWN_WORD;
    }

    private boolean wasTold(int which) {
      return (wordsTold >> which & 1) != 0;
    }

    private boolean excludes(int which) {
      return wasTold(which) || which == KEEP && wasTold(INFO) || which == INFO && wasTold(KEEP);
    }

    private void parseLine() {
      skipBlanks();
      int begin = place;
      skipLetters();
      int which = whichWord(begin);
      if (which == UNKNOWN_WORD) {
        blame(begin, CANNOT_STAND);
        return;
      }
      if (excludes(which)) {
        blame(begin, TOLD_ALREADY);
        return;
      }
      wordsTold |= 1 << which;
      parseNumbers(which);
    }

    private void parseNumbers(int which) {
      switch (which) {
        case KEEP:
          told.k = number(1, MOST_CHANNELS);
          break;
        case INFO:
          parseInfo();
          break;
        case CHECK:
          told.c = number(0, 8);
          told.poly = number(0, 255);
          break;
        case ERASE:
          told.erase = number(1, 999);
          break;
        default:
          told.list = number(1, MOST_PATHS);
          break;
      }
    }

    /** A channel behind the 64th can't rise any more, so the last turn always ends with a fault. */
    private void parseInfo() {
      int least = 0;
      for (int i = 0; i <= MOST_CHANNELS; i++) {
        int channel = number(least, told.n - 1);
        if (fault != 0) {
          return;
        }
        told.keptSet |= 1L << channel;
        least = channel + 1;
        skipBlanks();
        if (place >= length || bytes[place] != ',') {
          return;
        }
        place++;
      }
    }

    private boolean atDigit() {
      return place < length && bytes[place] >= '0' && bytes[place] <= '9';
    }

    /** What it answers counts only without a fault; it stays small however long the digits go on. */
    private int number(int least, int most) {
      if (fault != 0) {
        return 0;
      }
      skipBlanks();
      int begin = place;
      if (!atDigit()) {
        blame(begin, CANNOT_STAND);
        return 0;
      }
      int value = 0;
      while (place < length && atDigit()) {
        value = Math.min(GREAT_NUMBER, 10 * value + bytes[place] - '0');
        place++;
      }
      if (value < least || value > most) {
        blame(begin, WRONG_NUMBER);
      }
      return value;
    }

    private void finish() {
      if (wasTold(INFO)) {
        told.k = Long.bitCount(told.keptSet) - told.c;
      }
      if (told.k < 1 || told.k + told.c > told.n) {
        blame(length, WRONG_WHOLE);
        return;
      }
      if (wasTold(KEEP)) {
        keepBest(told.k + told.c);
      }
    }

    private void keepBest(int howMany) {
      for (int i = 0; i < told.n; i++) {
        badness[i] = told.badness(i);
      }
      for (int i = 0; i < howMany && i < told.n; i++) {
        told.keptSet |= 1L << bestLeft();
      }
    }

    /** Of like channels the greater one: they are asked from the last down. */
    private int bestLeft() {
      int best = NONE;
      for (int i = told.n - 1; i >= 0; i--) {
        if (!told.isKept(i) && (best == NONE || badness[i] < badness[best])) {
          best = i;
        }
      }
      return Math.max(0, best);
    }
  }

  /** The paths that there are, in their order. */
  private static final class Paths {
    int count = 0;
    final long[] bits = new long[MOST_PATHS];
    final int[] metrics = new int[MOST_PATHS];

    /** Of each level (eight places each) which row of sums a path goes by. */
    final int[] rows = new int[(MOST_LEVELS + 1) * MOST_PATHS];

    void clear() {
      count = 0;
    }

    void addFirst() {
      count = 1;
      bits[0] = 0L;
      metrics[0] = 0;
      for (int level = 0; level <= MOST_LEVELS; level++) {
        rows[level * MOST_PATHS] = 0;
      }
    }

    void addChild(Paths ahead, int parent, long itsBits, int metric) {
      if (count >= MOST_PATHS) {
        return;
      }
      bits[count] = itsBits;
      metrics[count] = metric;
      for (int level = 0; level <= MOST_LEVELS; level++) {
        int first = level * MOST_PATHS;
        rows[first + count] = ahead.rows[first + parent];
      }
      count++;
    }
  }

  /** The paths behind each channel, eight places for each. */
  private static final class Trace {
    final int[] counts = new int[MOST_CHANNELS];
    final int[] metrics = new int[MOST_CHANNELS * MOST_PATHS];

    /** Twice the path ahead, and the bit. */
    final int[] steps = new int[MOST_CHANNELS * MOST_PATHS];

    void put(int channel, int path, int metric, int step) {
      int at = channel * MOST_PATHS + path;
      metrics[at] = metric;
      steps[at] = step;
    }
  }

  /** Reading with a list of paths. */
  private static final class Reader {
    Paths paths = new Paths();
    private Paths nextPaths = new Paths();
    final Trace trace = new Trace();

    /** How great the sum was by which the first path's channel was decided. */
    final int[] sureness = new int[MOST_CHANNELS];

    int leftWork = 0;
    int rightWork = 0;
    int decided = 0;
    int chosen = 0;
    boolean holds = false;

    /** Eight rows for each level; a row of a level has 2 to the level sums. */
    private final int[] sums = new int[MOST_PATHS * (2 * MOST_CHANNELS - 1)];
    private final int[] splitMetrics = new int[2 * MOST_PATHS];
    private final int[] order = new int[2 * MOST_PATHS];
    private State code = new State();
    private int list = 1;
    private boolean cut = false;
    private int flip = NONE;

    void run(State itsCode, int[] heard, int itsList, boolean itsCut, int itsFlip) {
      code = itsCode;
      list = itsList;
      cut = itsCut;
      flip = itsFlip;
      leftWork = 0;
      rightWork = 0;
      decided = 0;
      paths.addFirst();
      System.arraycopy(heard, 0, sums, ownStart(code.m, 0), code.n);
      int channel = 0;
      for (int turn = 0; turn < MOST_CHANNELS && channel < code.n; turn++) {
        channel += readNodes(channel);
      }
      choose();
    }

    /** Where a path's own row lies, the one that it reckons anew. */
    private static int ownStart(int level, int path) {
      return MOST_PATHS * ((1 << level) - 1) + (path << level);
    }

    /** Where the row lies that a path goes by: its own, or that of one it came from. */
    private int pathStart(int level, int path) {
      int row = paths.rows[level * MOST_PATHS + path];
      return MOST_PATHS * ((1 << level) - 1) + (row << level);
    }

    /** Goes down all nodes that begin with a channel: how many channels are read then. */
    private int readNodes(int channel) {
      int level = code.m;
      if (channel != 0) {
        level = Integer.numberOfTrailingZeros(channel);
        reckonRight(level, channel);
      }
      for (; level > 0; level--) {
        if (cut && isCutShort(channel, level)) {
          return 1 << level;
        }
        reckonLeft(level - 1);
      }
      if (!cut || !isCutShort(channel, 0)) {
        decide(channel);
      }
      return 1;
    }

    private void reckonLeft(int level) {
      int size = 1 << level;
      for (int p = 0; p < paths.count; p++) {
        int from = pathStart(level + 1, p);
        int to = ownStart(level, p);
        for (int j = 0; j < size; j++) {
          sums[to + j] = leftSum(sums[from + j], sums[from + size + j]);
        }
        paths.rows[level * MOST_PATHS + p] = p;
      }
      leftWork += paths.count * size;
    }

    private void reckonRight(int level, int channel) {
      int size = 1 << level;
      for (int p = 0; p < paths.count; p++) {
        int from = pathStart(level + 1, p);
        int to = ownStart(level, p);
        long left = butterfly(paths.bits[p] >>> channel - size & lowBits(size), level);
        for (int j = 0; j < size; j++) {
          sums[to + j] = rightSum(sums[from + j], sums[from + size + j], left >>> j & 1L);
        }
        paths.rows[level * MOST_PATHS + p] = p;
      }
      rightWork += paths.count * size;
    }

    private boolean isCutShort(int channel, int level) {
      long all = lowBits(1 << level);
      long free = code.keptSet >>> channel & all;
      if (free == 0L) {
        freezeNode(level);
        return true;
      }
      if (free != all || list != 1 || hasZeroSum(level)) {
        return false;
      }
      takeNode(channel, level);
      return true;
    }

    private void freezeNode(int level) {
      for (int p = 0; p < paths.count; p++) {
        int start = pathStart(level, p);
        for (int j = 0; j < 1 << level; j++) {
          paths.metrics[p] += penalty(sums[start + j], 0);
        }
      }
    }

    private boolean hasZeroSum(int level) {
      int start = pathStart(level, 0);
      for (int j = 0; j < 1 << level; j++) {
        if (sums[start + j] == 0) {
          return true;
        }
      }
      return false;
    }

    private void takeNode(int channel, int level) {
      int start = pathStart(level, 0);
      long bits = 0L;
      for (int j = 0; j < 1 << level; j++) {
        bits |= (sums[start + j] < 0 ? 1L : 0L) << j;
      }
      paths.bits[0] |= butterfly(bits, level) << channel;
    }

    private void decide(int channel) {
      decided++;
      sureness[channel] = Math.abs(sums[pathStart(0, 0)]);
      if (!code.isKept(channel)) {
        freeze(channel);
      } else if (channel == flip) {
        takeOther(channel);
      } else {
        split(channel);
      }
      trace.counts[channel] = paths.count;
    }

    private void freeze(int channel) {
      for (int p = 0; p < paths.count; p++) {
        paths.metrics[p] += penalty(sums[pathStart(0, p)], 0);
        trace.put(channel, p, paths.metrics[p], 2 * p);
      }
    }

    /** Only with a list of 1: its path gets the bit that it would not have got. */
    private void takeOther(int channel) {
      int sum = sums[pathStart(0, 0)];
      int other = sum < 0 ? 0 : 1;
      paths.bits[0] |= (long) other << channel;
      paths.metrics[0] += penalty(sum, other);
    }

    private void split(int channel) {
      int many = 2 * paths.count;
      for (int i = 0; i < many; i++) {
        splitMetrics[i] = paths.metrics[i >> 1] + penalty(sums[pathStart(0, i >> 1)], i & 1);
        sortIn(i);
      }
      nextPaths.clear();
      for (int i = 0; i < many && i < list; i++) {
        int step = order[i];
        long bits = paths.bits[step >> 1] | (long) (step & 1) << channel;
        nextPaths.addChild(paths, step >> 1, bits, splitMetrics[step]);
        trace.put(channel, i, splitMetrics[step], step);
      }
      Paths old = paths;
      paths = nextPaths;
      nextPaths = old;
    }

    /** Behind all that are not worse, so that like ones stay in their order. */
    private void sortIn(int step) {
      int at = step;
      while (at > 0 && splitMetrics[order[at - 1]] > splitMetrics[step]) {
        order[at] = order[at - 1];
        at--;
      }
      order[at] = step;
    }

    private void choose() {
      chosen = 0;
      holds = false;
      for (int p = 0; p < paths.count && !holds; p++) {
        if (code.checkHolds(paths.bits[p])) {
          chosen = p;
          holds = true;
        }
      }
    }
  }

  /** Reading with a list of 1, and one bit flipped where its check fails. */
  private static final class Flips {
    private static final int MOST_TRIED = 12;

    int tried = 0;
    int channel = NONE;
    int metric = 0;
    boolean holds = false;
    private final int[] sureness = new int[MOST_CHANNELS];

    void run(State code, Reader reader) {
      reader.run(code, code.sums, 1, false, NONE);
      tried = 0;
      channel = NONE;
      metric = reader.paths.metrics[0];
      holds = reader.holds;
      System.arraycopy(reader.sureness, 0, sureness, 0, MOST_CHANNELS);
      long left = code.keptSet;
      while (tried < MOST_TRIED && left != 0L && !holds) {
        int next = leastSure(left);
        left &= ~(1L << next);
        tried++;
        reader.run(code, code.sums, 1, false, next);
        if (reader.holds) {
          channel = next;
          metric = reader.paths.metrics[0];
          holds = true;
        }
      }
    }

    private int leastSure(long channels) {
      int least = NONE;
      for (int i = 0; i < MOST_CHANNELS; i++) {
        boolean asked = (channels >>> i & 1L) != 0L;
        if (asked && (least == NONE || sureness[i] < sureness[least])) {
          least = i;
        }
      }
      return Math.max(0, least);
    }
  }

  /** Beginnings of channels, sought from the best on; they lie in a heap. */
  private static final class Seeker {
    private static final int MOST_GO_ON = 1500;

    /** Each that goes on is gone and brings two at most: one more at a time. */
    private static final int MOST_HELD = MOST_GO_ON + 2;

    boolean found = false;
    int metric = 0;
    long channels = 0L;
    int wentOn = 0;

    /** 128 times the metric, and 64 less the depth: the least goes on first. */
    private final int[] keys = new int[MOST_HELD];
    private final long[] beginnings = new long[MOST_HELD];
    private int held = 0;
    private final int[] sums = new int[MOST_CHANNELS];

    void run(State code) {
      found = false;
      wentOn = 0;
      held = 0;
      push(0, 0, 0L);
      while (wentOn < MOST_GO_ON && held > 0 && !found) {
        wentOn++;
        goOn(code);
      }
    }

    private void goOn(State code) {
      int depth = 64 - (keys[0] & 127);
      int itsMetric = keys[0] >> 7;
      long bits = beginnings[0];
      dropFirst();
      if (depth < code.n) {
        grow(code, itsMetric, depth, bits);
      } else if (code.checkHolds(bits)) {
        found = true;
        metric = itsMetric;
        channels = bits;
      }
    }

    private void grow(State code, int itsMetric, int depth, long bits) {
      int sum = sumAt(code, depth, bits);
      push(itsMetric + penalty(sum, 0), depth + 1, bits);
      if (code.isKept(depth)) {
        push(itsMetric + penalty(sum, 1), depth + 1, bits | 1L << depth);
      }
    }

    /** The sum that decides a channel when all ahead of it have these bits. */
    private int sumAt(State code, int channel, long bits) {
      System.arraycopy(code.sums, 0, sums, 0, MOST_CHANNELS);
      for (int level = code.m - 1; level >= 0; level--) {
        int size = 1 << level;
        boolean isRight = (channel & size) != 0;
        int nodeStart = channel & -size;
        long left = isRight ? butterfly(bits >>> nodeStart - size & lowBits(size), level) : 0L;
        for (int j = 0; j < size; j++) {
          int a = sums[j];
          int b = sums[j + size];
          sums[j] = isRight ? rightSum(a, b, left >>> j & 1L) : leftSum(a, b);
        }
      }
      return sums[0];
    }

    private static boolean isAhead(int key, long bits, int otherKey, long otherBits) {
      if (key != otherKey) {
        return key < otherKey;
      }
      long unlike = bits ^ otherBits;
      return (bits & unlike & -unlike) == 0L;
    }

    private void push(int itsMetric, int depth, long bits) {
      if (held >= MOST_HELD) {
        return;
      }
      int key = 128 * itsMetric + 64 - depth;
      int at = held;
      held++;
      while (at > 0 && isAhead(key, bits, keys[(at - 1) / 2], beginnings[(at - 1) / 2])) {
        move((at - 1) / 2, at);
        at = (at - 1) / 2;
      }
      keys[at] = key;
      beginnings[at] = bits;
    }

    private void move(int from, int to) {
      keys[to] = keys[from];
      beginnings[to] = beginnings[from];
    }

    /** The last one takes the place of the first and sinks to where it belongs. */
    private void dropFirst() {
      held--;
      int key = keys[held];
      long bits = beginnings[held];
      int at = 0;
      int child = firstChild(at);
      for (int turn = 0; turn < MOST_HELD; turn++) {
        if (child >= held || !isAhead(keys[child], beginnings[child], key, bits)) {
          break;
        }
        move(child, at);
        at = child;
        child = firstChild(at);
      }
      keys[at] = key;
      beginnings[at] = bits;
    }

    /** Of the two below a place the one that goes on first; may lie behind all. */
    private int firstChild(int at) {
      int one = 2 * at + 1;
      int two = one + 1;
      if (two < held && isAhead(keys[two], beginnings[two], keys[one], beginnings[one])) {
        return two;
      }
      return one;
    }
  }

  /** Goes through the words of all messages, each one bit of a message from the last. */
  private static final class AllWords {
    private static final int SUM_BITS = 7;

    int message = 0;
    int leastDistance = 0;

    /** Words of the messages of a single bit: others are joined of these. */
    private final long[] basis = new long[MOST_SEARCHED_K];

    /** Which sums have a bit in how great they are: all words are weighed by these. */
    private final long[] planes = new long[SUM_BITS];

    void findNearest(State code) {
      makeBasis(code);
      makePlanes(code);
      long unlike = saidWord(code);
      message = 0;
      leastDistance = weigh(unlike);
      for (int i = 1; i < 1 << code.k; i++) {
        unlike ^= basis[Integer.numberOfTrailingZeros(i)];
        consider(i ^ i >> 1, weigh(unlike));
      }
    }

    private void consider(int itsMessage, int far) {
      if (far < leastDistance || far == leastDistance && itsMessage < message) {
        message = itsMessage;
        leastDistance = far;
      }
    }

    int howManyWeigh(State code, int w) {
      makeBasis(code);
      long word = 0L;
      int many = w == 0 ? 1 : 0;
      for (int i = 1; i < 1 << code.k; i++) {
        word ^= basis[Integer.numberOfTrailingZeros(i)];
        many += Long.bitCount(word) == w ? 1 : 0;
      }
      return many;
    }

    private void makeBasis(State code) {
      for (int i = 0; i < code.k && i < MOST_SEARCHED_K; i++) {
        basis[i] = code.encode(1L << i);
      }
    }

    private void makePlanes(State code) {
      for (int bit = 0; bit < SUM_BITS; bit++) {
        planes[bit] = 0L;
        for (int i = 0; i < code.n; i++) {
          planes[bit] |= (long) (Math.abs(code.sums[i]) >> bit & 1) << i;
        }
      }
    }

    private static long saidWord(State code) {
      long said = 0L;
      for (int i = 0; i < code.n; i++) {
        said |= (code.sums[i] < 0 ? 1L : 0L) << i;
      }
      return said;
    }

    private int weigh(long unlike) {
      int far = 0;
      for (int bit = 0; bit < SUM_BITS; bit++) {
        far += Long.bitCount(unlike & planes[bit]) << bit;
      }
      return far;
    }
  }
}
