import java.util.ArrayList;
import java.util.List;
import java.util.NoSuchElementException;

/**
 * The document in the plainest code that follows its words, for comparison: every row is looked at, every set is
 * tried, nothing is kept from one call to the next but the state itself.
 */
final class Oracle {
  private static final int NONE = -1;

  int letters = 4;
  final int[][] cost = new int[4][4];
  int swap = 0;
  int drop = 2;
  int gap = 0;
  String tape = "";
  final List<String> words = new ArrayList<>();
  final List<Integer> parts = new ArrayList<>();
  final List<String> texts = new ArrayList<>();

  Oracle() {
    for (int a = 0; a < 4; a++) {
      for (int b = 0; b < 4; b++) {
        cost[a][b] = a == b ? 0 : 1;
      }
    }
  }

  boolean letters(int n) {
    if (n < 2 || n > 4 || !words.isEmpty() || !texts.isEmpty()) return false;
    letters = n;
    return true;
  }

  boolean cost(int a, int b, int v) {
    if (a < 0 || a > 3 || b < 0 || b > 3 || a == b || v < 1 || v > 9) return false;
    cost[a][b] = v;
    cost[b][a] = v;
    return true;
  }

  boolean swap(int v) {
    if (v < 0 || v > 9) return false;
    swap = v;
    return true;
  }

  boolean drop(int v) {
    if (v < 1 || v > 9) return false;
    drop = v;
    return true;
  }

  boolean gap(int v) {
    if (v < 0 || v > 63) return false;
    gap = v;
    return true;
  }

  int feed(int a, int b, int c, int d, int e) {
    if (tape.length() + 20 > 40) return NONE;
    StringBuilder s = new StringBuilder(tape);
    for (int n : new int[] {a, b, c, d, e}) {
      s.append((char) (n >>> 24)).append((char) (n >>> 16 & 255)).append((char) (n >>> 8 & 255));
      s.append((char) (n & 255));
    }
    tape = s.toString();
    return tape.length();
  }

  int end(int n) {
    if (n < 0 || tape.length() < n) return NONE;
    tape = tape.substring(0, n);
    return n;
  }

  private String take() {
    String s = tape;
    tape = "";
    return s;
  }

  private boolean areLetters(String s) {
    return s.chars().allMatch(c -> c >= 'a' && c < 'a' + letters);
  }

  private int length() {
    return words.isEmpty() ? NONE : words.get(0).length();
  }

  int word() {
    String s = take();
    if (!areLetters(s) || s.length() < 1 || s.length() > 7 || words.size() == 8) return NONE;
    if (!words.isEmpty() && s.length() != length()) return NONE;
    words.add(s);
    parts.add(1);
    return words.size() - 1;
  }

  int text() {
    String s = take();
    if (!areLetters(s) || s.length() < 1 || s.length() > 24 || texts.size() == 5) return NONE;
    texts.add(s);
    return texts.size() - 1;
  }

  private boolean isWord(int w) {
    return w >= 0 && w < words.size();
  }

  boolean part(int word, int part) {
    if (!isWord(word) || part < 0 || part > 2) return false;
    parts.set(word, part);
    return true;
  }

  /** The DISTANCE, by trying at the first place all that may be done there. */
  private int distance(String x, String y) {
    if (x.isEmpty()) return 0;
    int least = cost[x.charAt(0) - 'a'][y.charAt(0) - 'a'] + distance(x.substring(1), y.substring(1));
    if (swap > 0 && x.length() > 1 && x.charAt(0) == y.charAt(1) && x.charAt(1) == y.charAt(0)) {
      least = Math.min(least, swap + distance(x.substring(2), y.substring(2)));
    }
    return least;
  }

  private int editing(String x, String y) {
    int[][] e = new int[x.length() + 1][y.length() + 1];
    for (int i = 0; i <= x.length(); i++) {
      for (int j = 0; j <= y.length(); j++) {
        int least = i == 0 && j == 0 ? 0 : Integer.MAX_VALUE;
        if (i > 0) least = Math.min(least, e[i - 1][j] + drop);
        if (j > 0) least = Math.min(least, e[i][j - 1] + drop);
        if (i > 0 && j > 0) {
          least = Math.min(least, e[i - 1][j - 1] + cost[x.charAt(i - 1) - 'a'][y.charAt(j - 1) - 'a']);
        }
        e[i][j] = least;
      }
    }
    return e[x.length()][y.length()];
  }

  int apart(int a, int b) {
    return isWord(a) && isWord(b) ? distance(words.get(a), words.get(b)) : NONE;
  }

  int from(int word) {
    String s = take();
    return isWord(word) && areLetters(s) && s.length() == length() ? distance(s, words.get(word)) : NONE;
  }

  private List<Integer> having(int part) {
    List<Integer> found = new ArrayList<>();
    for (int w = 0; w < words.size(); w++) {
      if (parts.get(w) == part) found.add(w);
    }
    return found;
  }

  private List<String> rows(int length) {
    List<String> all = new ArrayList<>();
    all.add("");
    for (int i = 0; i < length; i++) {
      List<String> longer = new ArrayList<>();
      for (String s : all) {
        for (int c = 0; c < letters; c++) longer.add(s + (char) ('a' + c));
      }
      all = longer;
    }
    return all;
  }

  private List<String> candidates() {
    List<String> found = new ArrayList<>();
    for (String s : rows(length())) {
      boolean far = true;
      for (int w : having(2)) far &= distance(s, words.get(w)) >= gap;
      if (far) found.add(s);
    }
    return found;
  }

  private int radius(String s) {
    int r = 0;
    for (int w : having(1)) r = Math.max(r, distance(s, words.get(w)));
    return r;
  }

  private String theCentre() {
    String best = null;
    if (having(1).isEmpty()) return null;
    for (String s : candidates()) {
      if (best == null || radius(s) < radius(best)) best = s;
    }
    return best;
  }

  private static int letterAt(String s, int i) {
    return s == null || i < 0 || i >= s.length() ? NONE : s.charAt(i) - 'a';
  }

  int centre() {
    String s = theCentre();
    return s == null ? NONE : radius(s);
  }

  int centreAt(int i) {
    return letterAt(theCentre(), i);
  }

  private int greatest(String s, int k) {
    List<Integer> all = new ArrayList<>();
    for (int w : having(1)) all.add(distance(s, words.get(w)));
    all.sort(null);
    return k >= all.size() ? 0 : all.get(all.size() - 1 - k);
  }

  private String theWithout(int k) {
    if (k < 0 || k > 7 || having(1).isEmpty()) return null;
    String best = null;
    int least = 0;
    for (String s : candidates()) {
      int d = greatest(s, k);
      if (best == null || d < least) {
        best = s;
        least = d;
      }
    }
    return best;
  }

  int without(int k) {
    String s = theWithout(k);
    return s == null ? NONE : greatest(s, k);
  }

  int leftOut(int k) {
    String s = theWithout(k);
    if (s == null) return NONE;
    int bits = 0;
    for (int w : having(1)) {
      if (distance(s, words.get(w)) > greatest(s, k)) bits |= 1 << w;
    }
    return bits;
  }

  private boolean asks(int r) {
    return r >= 0 && r <= 63 && !having(1).isEmpty();
  }

  int within(int r) {
    if (!asks(r)) return NONE;
    int n = 0;
    for (String s : candidates()) {
      if (radius(s) <= r) n++;
    }
    return n;
  }

  int lettersAt(int r, int i) {
    if (!asks(r) || i < 0 || i >= length()) return NONE;
    int bits = 0;
    for (String s : candidates()) {
      if (radius(s) <= r) bits |= 1 << letterAt(s, i);
    }
    return bits;
  }

  /** For each set, whether it is HELD within r. */
  private boolean[] held(int r, List<String> candidates) {
    boolean[] held = new boolean[256];
    for (String s : candidates) {
      int all = 0;
      for (int w : having(1)) {
        if (distance(s, words.get(w)) <= r) all |= 1 << w;
      }
      held[all] = true;
    }
    for (int set = 255; set >= 0; set--) {
      for (int more = set; more < 256 && !held[set]; more++) {
        held[set] = (more & set) == set && held[more];
      }
    }
    return held;
  }

  private int nearBits() {
    int bits = 0;
    for (int w : having(1)) bits |= 1 << w;
    return bits;
  }

  int coreSet(int r) {
    if (!asks(r)) return NONE;
    boolean[] held = held(r, candidates());
    int near = nearBits();
    for (int size = 1; size <= 8; size++) {
      for (int set = 1; set < 256; set++) {
        if (Integer.bitCount(set) == size && (set & near) == set && !held[set]) return set;
      }
    }
    return 0;
  }

  int core(int r) {
    return coreSet(r) == NONE ? NONE : Integer.bitCount(coreSet(r));
  }

  private int coverOf(boolean[] held, int near) {
    boolean[] reached = new boolean[256];
    reached[0] = true;
    for (int k = 0; k <= 8; k++) {
      if (reached[near]) return k;
      boolean[] next = reached.clone();
      for (int done = 0; done < 256; done++) {
        for (int set = 0; set < 256 && reached[done]; set++) {
          if (held[set]) next[done | set] = true;
        }
      }
      reached = next;
    }
    return -2;
  }

  int cover(int r) {
    return asks(r) ? coverOf(held(r, candidates()), nearBits()) : NONE;
  }

  int centres(int k) {
    if (k < 1 || k > 8 || having(1).isEmpty()) return NONE;
    List<String> all = candidates();
    for (int r = 0; r <= 63; r++) {
      int n = coverOf(held(r, all), nearBits());
      if (n != -2 && n <= k) return r;
    }
    return NONE;
  }

  int edits(int a, int b) {
    return isWord(a) && isWord(b) ? editing(words.get(a), words.get(b)) : NONE;
  }

  int editsFrom(int word) {
    String s = take();
    return isWord(word) && areLetters(s) && s.length() >= 1 && s.length() <= 8 ? editing(s, words.get(word)) : NONE;
  }

  private int sumOfEdits(String s) {
    int sum = 0;
    for (int w : having(1)) sum += editing(s, words.get(w));
    return sum;
  }

  String theMiddle() {
    String best = null;
    int least = 0;
    if (having(1).isEmpty()) return null;
    for (int n = 1; n <= 8; n++) {
      for (String s : rows(n)) {
        int sum = sumOfEdits(s);
        if (best == null || sum < least) {
          best = s;
          least = sum;
        }
      }
    }
    return best;
  }

  int middle() {
    String s = theMiddle();
    return s == null ? NONE : sumOfEdits(s);
  }

  int middleLength() {
    String s = theMiddle();
    return s == null ? NONE : s.length();
  }

  int middleAt(int i) {
    return letterAt(theMiddle(), i);
  }

  private int sumOfDistances(String s) {
    int sum = 0;
    for (int w : having(1)) sum += distance(s, words.get(w));
    return sum;
  }

  private String theMedian() {
    String best = null;
    if (having(1).isEmpty()) return null;
    for (String s : candidates()) {
      if (best == null || sumOfDistances(s) < sumOfDistances(best)) best = s;
    }
    return best;
  }

  int median() {
    String s = theMedian();
    return s == null ? NONE : sumOfDistances(s);
  }

  int medianAt(int i) {
    return letterAt(theMedian(), i);
  }

  int medians() {
    int least = median();
    if (least == NONE) return NONE;
    int n = 0;
    for (String s : candidates()) {
      if (sumOfDistances(s) == least) n++;
    }
    return n;
  }

  private int nearestPiece(String s, String text) {
    int best = 0;
    int least = Integer.MAX_VALUE;
    for (int i = 0; i + s.length() <= text.length(); i++) {
      int d = distance(s, text.substring(i, i + s.length()));
      if (d < least) {
        best = i;
        least = d;
      }
    }
    return best;
  }

  private int reach(String s) {
    int greatest = 0;
    for (String t : texts) {
      int i = nearestPiece(s, t);
      greatest = Math.max(greatest, distance(s, t.substring(i, i + s.length())));
    }
    return greatest;
  }

  private String theMotif(int m) {
    if (m < 1 || m > 6 || texts.isEmpty()) return null;
    for (String t : texts) {
      if (t.length() < m) return null;
    }
    String best = null;
    int least = 0;
    for (String s : rows(m)) {
      int d = reach(s);
      if (best == null || d < least) {
        best = s;
        least = d;
      }
    }
    return best;
  }

  int motif(int m) {
    String s = theMotif(m);
    return s == null ? NONE : reach(s);
  }

  int motifAt(int m, int i) {
    return letterAt(theMotif(m), i);
  }

  int motifIn(int m, int text) {
    String s = theMotif(m);
    if (s == null || text < 0 || text >= texts.size()) throw new NoSuchElementException();
    return nearestPiece(s, texts.get(text));
  }

  int of(int word, int what) {
    if (!isWord(word) || what < 0 || what > length()) return NONE;
    return what == 0 ? parts.get(word) : letterAt(words.get(word), what - 1);
  }

  int count(int what) {
    if (what >= 10) return what - 10 < texts.size() ? texts.get(what - 10).length() : NONE;
    if (what < 0) return NONE;
    int[] all = {
      words.size(), having(1).size(), having(2).size(), texts.size(), letters, length(), swap, gap, tape.length(), drop
    };
    return all[what];
  }
}
