import java.util.NoSuchElementException;

/**
 * A room of near words: WORDS of one LENGTH that a row of LETTERS is to be near or far from, TEXTS in which a row
 * is to lie nearly, and what is nearest to them.
 *
 * <p>Answers that need a search are kept until a call changes what they rest on; all rows are made with the object,
 * so that no later call needs room.
 */
public final class NearWords {
  public static final int NONE = -1;

  private static final int ASIDE = 0;
  private static final int NEAR = 1;
  private static final int FAR = 2;
  private static final int MOST_LETTERS = 4;
  private static final int MOST_WORDS = 8;
  private static final int LONGEST_WORD = 7;
  private static final int LONGEST_MIDDLE = 8;
  private static final int MOST_TEXTS = 5;
  private static final int LONGEST_TEXT = 24;
  private static final int LONGEST_MOTIF = 6;
  private static final int TAPE_ROOM = 40;
  private static final int FEED = 20;
  private static final int DEAREST = 9;
  private static final int FURTHEST = 63;
  private static final int NO_COVER = -2;
  private static final int NOT_REACHED = 0x7fffffff;

  private final Rules rules = new Rules();
  private final Tape tape = new Tape();
  private final Words words = new Words();
  private final Texts texts = new Texts();
  private final Candidates candidates = new Candidates(rules, words);
  private final Survey survey = new Survey(candidates);
  private final Sets sets = new Sets(candidates);
  private final Middle middles = new Middle(rules, words);
  private final Motif motifs = new Motif(rules, texts);

  public NearWords() {
  }

  public boolean letters(int n) {
    if (n < 2 || n > MOST_LETTERS || words.size > 0 || texts.size > 0) {
      return false;
    }
    rules.letters = n;
    return true;
  }

  public boolean cost(int a, int b, int v) {
    if (!isLetterOfFour(a) || !isLetterOfFour(b) || a == b || v < 1 || v > DEAREST) {
      return false;
    }
    rules.setPrice(a, b, v);
    forgetDistances();
    middles.fresh = false;
    return true;
  }

  public boolean swap(int v) {
    if (v < 0 || v > DEAREST) {
      return false;
    }
    rules.swap = v;
    forgetDistances();
    return true;
  }

  public boolean drop(int v) {
    if (v < 1 || v > DEAREST) {
      return false;
    }
    rules.drop = v;
    middles.fresh = false;
    return true;
  }

  public boolean gap(int v) {
    if (v < 0 || v > FURTHEST) {
      return false;
    }
    rules.gap = v;
    forgetCandidates();
    return true;
  }

  public int feed(int a, int b, int c, int d, int e) {
    if (tape.size + FEED > TAPE_ROOM) {
      return NONE;
    }
    tape.add(a);
    tape.add(b);
    tape.add(c);
    tape.add(d);
    tape.add(e);
    return tape.size;
  }

  public int end(int n) {
    if (n < 0 || n > tape.size) {
      return NONE;
    }
    tape.size = n;
    return n;
  }

  public int word() {
    int length = tape.take(rules.letters);
    if (length < 1 || length > LONGEST_WORD || words.size >= MOST_WORDS) {
      return NONE;
    }
    if (words.size > 0 && length != words.length) {
      return NONE;
    }
    words.add(tape.row, length);
    forgetWords();
    return words.size - 1;
  }

  public int text() {
    int length = tape.take(rules.letters);
    if (length < 1 || length > LONGEST_TEXT || texts.size >= MOST_TEXTS) {
      return NONE;
    }
    texts.add(tape.row, length);
    motifs.forget();
    return texts.size - 1;
  }

  public boolean part(int word, int part) {
    if (!words.has(word) || part < ASIDE || part > FAR) {
      return false;
    }
    words.parts[word] = part;
    forgetWords();
    return true;
  }

  public int apart(int a, int b) {
    if (!words.has(a) || !words.has(b)) {
      return NONE;
    }
    return rules.distance(words.rows, words.start(a), words.rows, words.start(b), words.length);
  }

  public int from(int word) {
    int length = tape.take(rules.letters);
    if (!words.has(word) || length != words.length) {
      return NONE;
    }
    return rules.distance(tape.row, 0, words.rows, words.start(word), length);
  }

  public int centre() {
    survey.refresh();
    return survey.radius;
  }

  public int centreAt(int i) {
    survey.refresh();
    return survey.radius == NONE ? NONE : words.letterOfRow(survey.centreRow, i);
  }

  public int without(int k) {
    int key = keyWithout(k);
    return key == NOT_REACHED ? NONE : sets.reachOf(key);
  }

  public int leftOut(int k) {
    int key = keyWithout(k);
    return key == NOT_REACHED ? NONE : candidates.furtherThan(sets.reachOf(key), sets.rowOf(key));
  }

  public int within(int r) {
    if (!asksWithin(r)) {
      return NONE;
    }
    survey.refresh();
    return survey.counts[r];
  }

  public int lettersAt(int r, int i) {
    if (!asksWithin(r) || i < 0 || i >= words.length) {
      return NONE;
    }
    survey.refresh();
    return Walk.spotAt(survey.seen[r], i);
  }

  public int core(int r) {
    int set = coreSet(r);
    return set == NONE ? NONE : Integer.bitCount(set);
  }

  public int coreSet(int r) {
    if (!asksWithin(r)) {
      return NONE;
    }
    sets.refresh();
    return sets.leastNotHeld(r);
  }

  public int cover(int r) {
    if (!asksWithin(r)) {
      return NONE;
    }
    sets.refresh();
    return sets.fewestSets(r);
  }

  public int centres(int k) {
    if (k < 1 || k > MOST_WORDS || !words.hasNear()) {
      return NONE;
    }
    sets.refresh();
    int r = sets.covered[k];
    return r > FURTHEST ? NONE : r;
  }

  public int edits(int a, int b) {
    if (!words.has(a) || !words.has(b)) {
      return NONE;
    }
    return middles.editing(words.rows, words.start(a), words.length, b);
  }

  public int editsFrom(int word) {
    int length = tape.take(rules.letters);
    if (!words.has(word) || length < 1 || length > LONGEST_MIDDLE) {
      return NONE;
    }
    return middles.editing(tape.row, 0, length, word);
  }

  public int middle() {
    middles.refresh();
    return middles.sum;
  }

  public int middleLength() {
    middles.refresh();
    return middles.sum == NONE ? NONE : middles.length;
  }

  public int middleAt(int i) {
    middles.refresh();
    if (middles.sum == NONE || i < 0 || i >= middles.length || i >= LONGEST_MIDDLE) {
      return NONE;
    }
    return middles.found[i];
  }

  public int median() {
    survey.refresh();
    return survey.sum;
  }

  public int medianAt(int i) {
    survey.refresh();
    return survey.sum == NONE ? NONE : words.letterOfRow(survey.medianRow, i);
  }

  public int medians() {
    survey.refresh();
    return survey.sum == NONE ? NONE : survey.medians;
  }

  public int motif(int m) {
    if (!texts.allHave(m)) {
      return NONE;
    }
    motifs.refresh(m);
    return motifs.reach[m];
  }

  public int motifAt(int m, int i) {
    if (!texts.allHave(m) || i < 0 || i >= m) {
      return NONE;
    }
    motifs.refresh(m);
    return Walk.letterAt(motifs.found[m], m, i);
  }

  public int motifIn(int m, int text) throws NoSuchElementException {
    if (!texts.has(text)) {
      throw new NoSuchElementException("no such text");
    }
    if (!texts.allHave(m)) {
      throw new NoSuchElementException("no motif");
    }
    motifs.refresh(m);
    return motifs.nearestPiece(m, text);
  }

  public int of(int word, int what) {
    if (!words.has(word) || what < 0 || what > words.length) {
      return NONE;
    }
    return what == 0 ? words.parts[word] : words.rows[words.start(word) + what - 1];
  }

  public int count(int what) {
    switch (what) {
      case 0:
        return words.size;
      case 1:
        return Integer.bitCount(words.having(NEAR));
      case 2:
        return Integer.bitCount(words.having(FAR));
      case 3:
        return texts.size;
      case 4:
        return rules.letters;
      case 5:
        return words.size == 0 ? NONE : words.length;
      case 6:
        return rules.swap;
      case 7:
        return rules.gap;
      case 8:
        return tape.size;
      case 9:
        return rules.drop;
      default:
        return what >= 10 && texts.has(what - 10) ? texts.lengths[what - 10] : NONE;
    }
  }

  private static boolean isLetterOfFour(int letter) {
    return letter >= 0 && letter < MOST_LETTERS;
  }

  private boolean asksWithin(int r) {
    return r >= 0 && r <= FURTHEST && words.hasNear();
  }

  private int keyWithout(int k) {
    if (k < 0 || k >= MOST_WORDS || !words.hasNear()) {
      return NOT_REACHED;
    }
    sets.refresh();
    return sets.leastWithout(k);
  }

  private void forgetCandidates() {
    survey.fresh = false;
    sets.fresh = false;
  }

  private void forgetDistances() {
    forgetCandidates();
    motifs.forget();
  }

  private void forgetWords() {
    forgetCandidates();
    middles.fresh = false;
  }

  /** What LETTERS there are and what each change costs. */
  private static final class Rules {
    int letters = MOST_LETTERS;
    int swap = 0;
    int drop = 2;
    int gap = 0;
    final int[] prices = new int[MOST_LETTERS * MOST_LETTERS];

    Rules() {
      for (int a = 0; a < MOST_LETTERS; a++) {
        for (int b = 0; b < MOST_LETTERS; b++) {
          prices[a * MOST_LETTERS + b] = a == b ? 0 : 1;
        }
      }
    }

    void setPrice(int a, int b, int v) {
      prices[a * MOST_LETTERS + b] = v;
      prices[b * MOST_LETTERS + a] = v;
    }

    /** The DISTANCE of length letters of one from place i on and of other from place j on. */
    int distance(int[] one, int i, int[] other, int j, int length) {
      int before = 0;
      int now = 0;
      for (int p = 0; p < length; p++) {
        int x = one[i + p];
        int y = other[j + p];
        int next = now + prices[x * MOST_LETTERS + y];
        if (swap > 0 && p > 0 && one[i + p - 1] == y && other[j + p - 1] == x) {
          next = Math.min(next, before + swap);
        }
        before = now;
        now = next;
      }
      return now;
    }

    /** How many rows of so many LETTERS there are. */
    int rowsOf(int length) {
      int n = 1;
      for (int p = 0; p < length; p++) {
        n *= letters;
      }
      return n;
    }

    /**
     * Turns row into the next one that does not begin with its first last + 1 letters: the first place that
     * changed, NONE if there is no such row.
     */
    int advance(int[] row, int last, int length) {
      int p = last;
      while (p >= 0 && row[p] >= letters - 1) {
        p--;
      }
      if (p < 0) {
        return NONE;
      }
      row[p]++;
      for (int q = p + 1; q < length; q++) {
        row[q] = 0;
      }
      return p;
    }
  }

  /** The bytes that have come and are not yet used. */
  private static final class Tape {
    int size = 0;
    final int[] row = new int[TAPE_ROOM];
    private final byte[] bytes = new byte[TAPE_ROOM];

    void add(int four) {
      for (int shift = 24; shift >= 0 && size < TAPE_ROOM; shift -= 8) {
        bytes[size] = (byte) (four >> shift);
        size++;
      }
    }

    /** Empties the tape into row, as letters: how many, NONE if there are other bytes. */
    int take(int letters) {
      int length = size;
      size = 0;
      for (int i = 0; i < length; i++) {
        int letter = bytes[i] - 'a';
        if (letter < 0 || letter >= letters) {
          return NONE;
        }
        row[i] = letter;
      }
      return length;
    }
  }

  /** The WORDS, one behind the other in rows. */
  private static final class Words {
    int size = 0;
    int length = 0;
    final int[] rows = new int[MOST_WORDS * LONGEST_WORD];
    final int[] parts = new int[MOST_WORDS];

    boolean has(int word) {
      return word >= 0 && word < size;
    }

    int start(int word) {
      return word * LONGEST_WORD;
    }

    void add(int[] row, int rowLength) {
      length = rowLength;
      System.arraycopy(row, 0, rows, start(size), rowLength);
      parts[size] = NEAR;
      size++;
    }

    int having(int part) {
      int bits = 0;
      for (int w = 0; w < size; w++) {
        if (parts[w] == part) {
          bits |= 1 << w;
        }
      }
      return bits;
    }

    boolean hasNear() {
      return having(NEAR) != 0;
    }

    int letterOfRow(int packed, int i) {
      return i < 0 || i >= length ? NONE : Walk.letterAt(packed, length, i);
    }
  }

  /** The TEXTS, one behind the other in rows. */
  private static final class Texts {
    int size = 0;
    final int[] rows = new int[MOST_TEXTS * LONGEST_TEXT];
    final int[] lengths = new int[MOST_TEXTS];

    boolean has(int text) {
      return text >= 0 && text < size;
    }

    int start(int text) {
      return text * LONGEST_TEXT;
    }

    void add(int[] row, int rowLength) {
      System.arraycopy(row, 0, rows, start(size), rowLength);
      lengths[size] = rowLength;
      size++;
    }

    /** Whether there is a MOTIF of m letters: some TEXT, and none that is shorter. */
    boolean allHave(int m) {
      if (m < 1 || m > LONGEST_MOTIF) {
        return false;
      }
      for (int t = 0; t < size; t++) {
        if (lengths[t] < m) {
          return false;
        }
      }
      return size > 0;
    }

    int piecesOf(int text, int m) {
      return lengths[text] - m + 1;
    }
  }

  /**
   * Goes through rows of letters in their order and tells their DISTANCES to some targets. What the first letters of
   * a row add up to is kept for each place, since the next row mostly begins with the same ones.
   */
  private static final class Walk {
    private static final int LETTER_BITS = 2;

    int length = 0;
    int targets = 0;
    final int[] row;
    /** Behind the row's first p letters: sums[p * width + t] is the least sum to target t. */
    final int[] sums;
    final int width;
    private final Rules rules;
    private final int[] aims;
    private final int[] packed;
    private final int[] spots;

    Walk(Rules rules, int longest, int width) {
      this.rules = rules;
      this.width = width;
      row = new int[longest];
      sums = new int[(longest + 1) * width];
      aims = new int[longest * width];
      packed = new int[longest + 1];
      spots = new int[longest + 1];
    }

    static int letterAt(int packedRow, int length, int i) {
      return packedRow >> LETTER_BITS * (length - 1 - i) & 3;
    }

    static int spotAt(int spots, int i) {
      return spots >> MOST_LETTERS * i & 15;
    }

    /** Begins with the first row of that length, and with no targets. */
    void begin(int rowLength) {
      length = rowLength;
      targets = 0;
      for (int p = 0; p < rowLength; p++) {
        row[p] = 0;
      }
    }

    void aimAt(int[] letters, int start) {
      if (targets >= width) {
        return;
      }
      for (int p = 0; p < length; p++) {
        aims[p * width + targets] = letters[start + p];
      }
      targets++;
    }

    /** Reckons with the row's letter at a place, all letters ahead of it being reckoned with. */
    void put(int place) {
      int letter = row[place];
      int price = letter * MOST_LETTERS;
      int[] prices = rules.prices;
      int here = place * width;
      int behind = here + targets;
      for (int at = here; at < behind; at++) {
        sums[at + width] = sums[at] + prices[price + aims[at]];
      }
      packed[place + 1] = packed[place] << LETTER_BITS | letter;
      spots[place + 1] = spots[place] | 1 << MOST_LETTERS * place + letter;
      // A swap of two like letters never helps.
      if (rules.swap > 0 && place > 0 && row[place - 1] != letter) {
        putSwapped(place);
      }
    }

    private void putSwapped(int place) {
      int letter = row[place];
      int other = row[place - 1];
      int here = place * width;
      int back = here - width;
      for (int t = 0; t < targets; t++) {
        if (aims[here + t] == other && aims[back + t] == letter) {
          int sum = sums[back + t] + rules.swap;
          if (sum < sums[here + width + t]) {
            sums[here + width + t] = sum;
          }
        }
      }
    }

    void putFrom(int place) {
      for (int p = place; p < length; p++) {
        put(p);
      }
    }

    int advance(int last) {
      return rules.advance(row, last, length);
    }

    /** Where in sums the whole row's DISTANCES begin. */
    int whole() {
      return length * width;
    }

    /** The row in two bits a letter, so that rows of one length compare as numbers. */
    int packedRow() {
      return packed[length];
    }

    /** The row in four bits a place, of which its letter's is set. */
    int spotsOfRow() {
      return spots[length];
    }
  }

  /** Goes through all rows of LENGTH letters and tells which are CANDIDATES. */
  private static final class Candidates {
    final Words words;
    final Walk walk;
    /** How many NEAR WORDS there are: the walk's first targets. */
    int near = 0;
    /** The WORD's bit of each such target. */
    final int[] bits = new int[MOST_WORDS];
    private final Rules rules;
    private final int[] row = new int[LONGEST_WORD];

    Candidates(Rules rules, Words words) {
      this.rules = rules;
      this.words = words;
      walk = new Walk(rules, LONGEST_WORD, MOST_WORDS);
    }

    /** Begins anew: how many rows there are to go through. */
    int begin() {
      walk.begin(words.length);
      aimAtAll(NEAR);
      near = walk.targets;
      // With no gap every row is far enough.
      if (rules.gap > 0) {
        aimAtAll(FAR);
      }
      return rules.rowsOf(words.length);
    }

    private void aimAtAll(int part) {
      for (int w = 0; w < words.size; w++) {
        if (words.parts[w] == part) {
          bits[walk.targets] = 1 << w;
          walk.aimAt(words.rows, words.start(w));
        }
      }
    }

    boolean isFarEnough() {
      int whole = walk.whole();
      for (int t = near; t < walk.targets; t++) {
        if (walk.sums[whole + t] < rules.gap) {
          return false;
        }
      }
      return true;
    }

    /** The NEAR WORDS, as bits, that are further than r from a row. */
    int furtherThan(int r, int packedRow) {
      for (int i = 0; i < words.length; i++) {
        row[i] = Walk.letterAt(packedRow, words.length, i);
      }
      int further = 0;
      for (int w = 0; w < words.size; w++) {
        if (words.parts[w] == NEAR
            && rules.distance(row, 0, words.rows, words.start(w), words.length) > r) {
          further |= 1 << w;
        }
      }
      return further;
    }
  }

  /** What all CANDIDATES tell, each by its RADIUS and its sum of DISTANCES. */
  private static final class Survey {
    boolean fresh = false;
    int radius = NONE;
    int centreRow = 0;
    int sum = NONE;
    int medianRow = 0;
    int medians = 0;
    /** For each r, of the CANDIDATES within it: how many there are, and their letters at each place. */
    final int[] counts = new int[FURTHEST + 1];
    final int[] seen = new int[FURTHEST + 1];
    private final Candidates candidates;

    Survey(Candidates candidates) {
      this.candidates = candidates;
    }

    void refresh() {
      if (fresh) {
        return;
      }
      fresh = true;
      clear();
      if (candidates.words.hasNear()) {
        lookAtAll();
        addUp();
      }
    }

    private void clear() {
      radius = NONE;
      sum = NONE;
      medians = 0;
      for (int r = 0; r <= FURTHEST; r++) {
        counts[r] = 0;
        seen[r] = 0;
      }
    }

    private void lookAtAll() {
      Walk walk = candidates.walk;
      int place = 0;
      for (int left = candidates.begin(); left > 0 && place >= 0; left--) {
        walk.putFrom(place);
        if (candidates.isFarEnough()) {
          lookAtOne(walk);
        }
        place = walk.advance(walk.length - 1);
      }
    }

    private void lookAtOne(Walk walk) {
      int whole = walk.whole();
      int furthest = 0;
      int total = 0;
      for (int t = 0; t < candidates.near; t++) {
        int distance = walk.sums[whole + t];
        total += distance;
        if (distance > furthest) {
          furthest = distance;
        }
      }
      if (furthest > FURTHEST) {
        return;
      }
      counts[furthest]++;
      seen[furthest] |= walk.spotsOfRow();
      if (radius == NONE || furthest < radius) {
        radius = furthest;
        centreRow = walk.packedRow();
      }
      if (sum == NONE || total < sum) {
        sum = total;
        medianRow = walk.packedRow();
        medians = 0;
      }
      if (total == sum) {
        medians++;
      }
    }

    private void addUp() {
      for (int r = 1; r <= FURTHEST; r++) {
        counts[r] += counts[r - 1];
        seen[r] |= seen[r - 1];
      }
    }
  }

  /** For every set of NEAR WORDS, the least r within which it is HELD, and the first CANDIDATE that holds it so. */
  private static final class Sets {
    private static final int ALL_SETS = 1 << MOST_WORDS;
    private static final int ROW_BITS = 2 * LONGEST_WORD;

    boolean fresh = false;
    /** For k sets or fewer: the least r within which a COVER has so many, above FURTHEST if there is none. */
    final int[] covered = new int[MOST_WORDS + 1];
    private final Candidates candidates;
    /** For each set r and CANDIDATE as one number (r in the high bits), so that the least is the one that counts. */
    private final int[] keys = new int[ALL_SETS];
    private final int[] parted = new int[ALL_SETS];
    private final int[] order = new int[MOST_WORDS];
    private int nearBits = 0;

    Sets(Candidates candidates) {
      this.candidates = candidates;
    }

    int reachOf(int key) {
      return key >> ROW_BITS;
    }

    int rowOf(int key) {
      return key & (1 << ROW_BITS) - 1;
    }

    void refresh() {
      if (fresh) {
        return;
      }
      fresh = true;
      nearBits = candidates.words.having(NEAR);
      for (int set = 0; set < ALL_SETS; set++) {
        keys[set] = NOT_REACHED;
      }
      if (nearBits != 0) {
        lookAtAll();
        holdSmallerSets();
        coverAll();
      }
    }

    private void lookAtAll() {
      Walk walk = candidates.walk;
      int left = candidates.begin();
      for (int i = 0; i < candidates.near; i++) {
        order[i] = i;
      }
      int place = 0;
      for (; left > 0 && place >= 0; left--) {
        walk.putFrom(place);
        if (candidates.isFarEnough()) {
          sortByDistance(walk.sums, walk.whole());
          holdNearest(walk);
        }
        place = walk.advance(walk.length - 1);
      }
    }

    /** Begins with the order of the CANDIDATE before, which is mostly near to the new one. */
    private void sortByDistance(int[] sums, int whole) {
      for (int i = 1; i < candidates.near; i++) {
        int moved = order[i];
        int distance = sums[whole + moved];
        int j = i - 1;
        while (j >= 0 && sums[whole + order[j]] > distance) {
          order[j + 1] = order[j];
          j--;
        }
        order[j + 1] = moved;
      }
    }

    /** A CANDIDATE holds its nearest WORD within that one's DISTANCE, its two nearest within the second's, ... */
    private void holdNearest(Walk walk) {
      int whole = walk.whole();
      int packedRow = walk.packedRow();
      int set = 0;
      hold(set, packedRow);
      for (int i = 0; i < candidates.near; i++) {
        set |= candidates.bits[order[i]];
        hold(set, walk.sums[whole + order[i]] << ROW_BITS | packedRow);
      }
    }

    private void hold(int set, int key) {
      if (key < keys[set]) {
        keys[set] = key;
      }
    }

    /** What holds a set holds each part of it. */
    private void holdSmallerSets() {
      for (int w = 0; w < MOST_WORDS; w++) {
        int bit = 1 << w;
        for (int set = 0; set < ALL_SETS; set++) {
          if ((set & bit) == 0) {
            hold(set, keys[set | bit]);
          }
        }
      }
    }

    /** Makes parted[set] the least r within which k sets or fewer make up that set, for each k in turn. */
    private void coverAll() {
      for (int set = 0; set < ALL_SETS; set++) {
        parted[set] = reachOf(keys[set]);
      }
      covered[1] = parted[nearBits];
      for (int k = 2; k <= MOST_WORDS; k++) {
        // From the greatest set down, since each rests on what k - 1 sets can do for smaller ones.
        for (int set = ALL_SETS - 1; set > 0; set--) {
          if ((set & nearBits) == set) {
            partOnce(set);
          }
        }
        covered[k] = parted[nearBits];
      }
    }

    private void partOnce(int set) {
      int first = set & -set;
      for (int one = set; one > 0; one = one - 1 & set) {
        if ((one & first) != 0) {
          int r = Math.max(reachOf(keys[one]), parted[set ^ one]);
          if (r < parted[set]) {
            parted[set] = r;
          }
        }
      }
    }

    /** The least key of a set of all NEAR WORDS but k; the empty set is held within 0 by the first CANDIDATE. */
    int leastWithout(int k) {
      int wanted = Math.max(0, Integer.bitCount(nearBits) - k);
      int least = NOT_REACHED;
      for (int set = 0; set < ALL_SETS; set++) {
        if ((set & nearBits) == set && Integer.bitCount(set) == wanted && keys[set] < least) {
          least = keys[set];
        }
      }
      return least;
    }

    /** The CORE within r, 0 if there is none. */
    int leastNotHeld(int r) {
      int found = 0;
      int fewest = MOST_WORDS + 1;
      for (int set = 1; set < ALL_SETS; set++) {
        int size = Integer.bitCount(set);
        if ((set & nearBits) == set && size < fewest && reachOf(keys[set]) > r) {
          found = set;
          fewest = size;
        }
      }
      return found;
    }

    int fewestSets(int r) {
      for (int k = 1; k <= MOST_WORDS; k++) {
        if (covered[k] <= r) {
          return k;
        }
      }
      return NO_COVER;
    }
  }

  /** EDITS, and the search for THE MIDDLE. */
  private static final class Middle {
    private static final int LINE = LONGEST_WORD + 1;
    private static final int PAGE = LINE * MOST_WORDS;

    boolean fresh = false;
    int sum = NONE;
    int length = 0;
    final int[] found = new int[LONGEST_MIDDLE];
    private final Rules rules;
    private final Words words;
    private final int[] row = new int[LONGEST_MIDDLE];
    /** lines[p * PAGE + w * LINE + j]: EDITS from a row's first p letters to the first j letters of WORD w. */
    private final int[] lines = new int[(LONGEST_MIDDLE + 1) * PAGE];

    Middle(Rules rules, Words words) {
      this.rules = rules;
      this.words = words;
    }

    /** EDITS from so many letters of a row to a WORD. */
    int editing(int[] letters, int start, int rowLength, int word) {
      firstLine(word);
      for (int p = 0; p < rowLength; p++) {
        nextLine(p, letters[start + p], word);
      }
      return lines[rowLength * PAGE + word * LINE + words.length];
    }

    private void firstLine(int word) {
      for (int j = 0; j <= words.length; j++) {
        lines[word * LINE + j] = j * rules.drop;
      }
    }

    private void nextLine(int place, int letter, int word) {
      int now = place * PAGE + word * LINE;
      int next = now + PAGE;
      int start = words.start(word);
      int price = letter * MOST_LETTERS;
      int[] prices = rules.prices;
      int[] rows = words.rows;
      int drop = rules.drop;
      int slant = lines[now];
      int left = slant + drop;
      lines[next] = left;
      for (int j = 0; j < words.length; j++) {
        int changed = slant + prices[price + rows[start + j]];
        slant = lines[now + j + 1];
        left = (slant < left ? slant : left) + drop;
        if (changed < left) {
          left = changed;
        }
        lines[next + j + 1] = left;
      }
    }

    void refresh() {
      if (fresh) {
        return;
      }
      fresh = true;
      sum = NONE;
      if (words.hasNear()) {
        // One more than a sum that some row of 1 to 8 letters has: the search then finds the first of the least.
        sum = leastOfNear() + 1;
        for (int w = 0; w < words.size; w++) {
          firstLine(w);
        }
        for (int n = 1; n <= LONGEST_MIDDLE; n++) {
          search(n);
        }
      }
    }

    private int leastOfNear() {
      int least = NOT_REACHED - 1;
      for (int w = 0; w < words.size; w++) {
        if (words.parts[w] == NEAR) {
          least = Math.min(least, sumFrom(w));
        }
      }
      return least;
    }

    private int sumFrom(int word) {
      int total = 0;
      for (int w = 0; w < words.size; w++) {
        if (words.parts[w] == NEAR) {
          total += editing(words.rows, words.start(word), words.length, w);
        }
      }
      return total;
    }

    /** Looks through the rows of n letters for less than the sum so far. */
    private void search(int n) {
      for (int p = 0; p < n; p++) {
        row[p] = 0;
      }
      int place = 0;
      for (int left = rules.rowsOf(n); left > 0 && place >= 0; left--) {
        int last = descend(place, n);
        place = rules.advance(row, last, n);
      }
    }

    /** Reckons with the row's letters from a place on, as far as less than the sum so far can come of it. */
    private int descend(int place, int n) {
      for (int p = place; p < n; p++) {
        int least = put(p, n - p - 1);
        if (least >= sum) {
          return p;
        }
        if (p == n - 1) {
          sum = least;
          length = n;
          System.arraycopy(row, 0, found, 0, n);
        }
      }
      return n - 1;
    }

    /**
     * Reckons with the row's letter at a place: what the row comes to at the least, whatever more letters come; with
     * none to come, its sum. Once that is no less than the sum so far, the other WORDS are not looked at.
     */
    private int put(int place, int more) {
      int total = 0;
      for (int w = 0; w < words.size && total < sum; w++) {
        if (words.parts[w] == NEAR) {
          nextLine(place, row[place], w);
          total += leastEnd(place + 1, w, more);
        }
      }
      return total;
    }

    /** EDITS to a WORD at the least: behind p letters, so many more of the row make up for so many of the WORD. */
    private int leastEnd(int p, int word, int more) {
      int line = p * PAGE + word * LINE;
      int drop = rules.drop;
      int least = NOT_REACHED;
      for (int j = 0; j <= words.length; j++) {
        int unlike = words.length - j - more;
        int end = lines[line + j] + (unlike < 0 ? -unlike : unlike) * drop;
        if (end < least) {
          least = end;
        }
      }
      return least;
    }
  }

  /** The search for THE MOTIF of each length. */
  private static final class Motif {
    private static final int NOT_SOUGHT = -2;

    final int[] reach = new int[LONGEST_MOTIF + 1];
    final int[] found = new int[LONGEST_MOTIF + 1];
    private final Rules rules;
    private final Texts texts;
    private final Walk walk;
    private final int[] row = new int[LONGEST_MOTIF];

    Motif(Rules rules, Texts texts) {
      this.rules = rules;
      this.texts = texts;
      walk = new Walk(rules, LONGEST_MOTIF, MOST_TEXTS * LONGEST_TEXT);
      forget();
    }

    void forget() {
      for (int m = 0; m <= LONGEST_MOTIF; m++) {
        reach[m] = NOT_SOUGHT;
      }
    }

    /** Seeks THE MOTIF of m letters, which all TEXTS have room for. */
    void refresh(int m) {
      if (reach[m] != NOT_SOUGHT) {
        return;
      }
      reach[m] = NOT_REACHED;
      walk.begin(m);
      for (int t = 0; t < texts.size; t++) {
        for (int i = 0; i < texts.piecesOf(t, m); i++) {
          walk.aimAt(texts.rows, texts.start(t) + i);
        }
      }
      int place = 0;
      for (int left = rules.rowsOf(m); left > 0 && place >= 0; left--) {
        place = walk.advance(descend(place, m));
      }
    }

    /** Reckons with the row's letters from a place on, as far as less than the best so far can come of it. */
    private int descend(int place, int m) {
      for (int p = place; p < m; p++) {
        walk.put(p);
        int least = leastReach(p, m);
        if (least >= reach[m]) {
          return p;
        }
        if (p == m - 1) {
          reach[m] = least;
          found[m] = walk.packedRow();
        }
      }
      return m - 1;
    }

    /** What the greatest DISTANCE to a nearest PIECE is at the least, with the letters up to that place. */
    private int leastReach(int place, int m) {
      int greatest = 0;
      int first = 0;
      for (int t = 0; t < texts.size; t++) {
        int behind = first + texts.piecesOf(t, m);
        greatest = Math.max(greatest, leastSum(place, first, behind));
        first = behind;
      }
      return greatest;
    }

    private int leastSum(int place, int first, int behind) {
      int now = place * walk.width;
      // The letter at this place may yet be swapped with the next one, and then costs no change.
      boolean maySwap = rules.swap > 0 && place < walk.length - 1;
      int least = NOT_REACHED;
      for (int t = first; t < behind; t++) {
        int sum = walk.sums[now + walk.width + t];
        if (maySwap && walk.sums[now + t] + rules.swap < sum) {
          sum = walk.sums[now + t] + rules.swap;
        }
        if (sum < least) {
          least = sum;
        }
      }
      return least;
    }

    /** Where the PIECE of a TEXT that is nearest to THE MOTIF of m letters begins. */
    int nearestPiece(int m, int text) {
      for (int i = 0; i < m; i++) {
        row[i] = Walk.letterAt(found[m], m, i);
      }
      int nearest = 0;
      int least = NOT_REACHED;
      for (int i = 0; i < texts.piecesOf(text, m); i++) {
        int distance = rules.distance(row, 0, texts.rows, texts.start(text) + i, m);
        if (distance < least) {
          least = distance;
          nearest = i;
        }
      }
      return nearest;
    }
  }
}
