import java.util.stream.IntStream;

/** What the tests share: counting wrong answers, and putting texts on the TAPE. */
final class Checks {
  private static final int LOW = Integer.MIN_VALUE;
  private static final int HIGH = Integer.MAX_VALUE;

  private int wrong = 0;
  private int checked = 0;

  void due(String what, long got, long want) {
    checked++;
    if (got != want) {
      wrong++;
      System.out.println(what + " answered " + got + ", due is " + want);
    }
  }

  void due(String what, boolean got, boolean want) {
    due(what, got ? 1 : 0, want ? 1 : 0);
  }

  void due(String what, String got, String want) {
    checked++;
    if (!got.equals(want)) {
      wrong++;
      System.out.println(what + " answered " + got + ", due is " + want);
    }
  }

  /** Without words of its own: the line that asks tells what is asked. */
  void due(long got, long want) {
    due(got == want ? "" : line(), got, want);
  }

  void due(String got, String want) {
    due(got.equals(want) ? "" : line(), got, want);
  }

  void none(int got) {
    due(got, NearWords.NONE);
  }

  void yes(boolean got) {
    due(got ? 1 : 0, 1);
  }

  void no(boolean got) {
    due(got ? 1 : 0, 0);
  }

  boolean areAsDue() {
    return wrong == 0 && checked > 0;
  }

  private static String line() {
    return StackWalker.getInstance().walk(frames -> frames
        .filter(f -> !f.getClassName().equals("Checks"))
        .findFirst()
        .map(f -> f.getFileName() + ":" + f.getLineNumber())
        .orElse("?"));
  }

  /** Numbers below and above a range, those among them that wrap around into it in one byte or two. */
  static int[] outside(int least, int most) {
    return IntStream.of(LOW, LOW + 1, LOW + least, LOW + most, -65536 + least, -256 + least, -most, least - 2, least - 1,
        most + 1, most + 2, most + 3, least + 256, most + 256, least + 65536, most + 65536, 1 << 24, HIGH - 1, HIGH)
        .filter(n -> n < least || n > most)
        .distinct()
        .toArray();
  }

  void finish() {
    System.out.println(checked + " answers, " + wrong + " not as due");
    if (wrong > 0 || checked == 0) {
      System.exit(1);
    }
  }

  /** The five numbers that bring twenty bytes of a text from a place on, filled up with blanks. */
  static int[] numbers(String text, int from) {
    int[] five = new int[5];
    for (int i = 0; i < 20; i++) {
      int sign = from + i < text.length() ? text.charAt(from + i) & 255 : ' ';
      five[i / 4] = five[i / 4] << 8 | sign;
    }
    return five;
  }

  /** Makes the TAPE, which is to be empty, hold a text of at most 40 signs. */
  static void tape(NearWords x, String text) {
    int[] n = numbers(text, 0);
    x.feed(n[0], n[1], n[2], n[3], n[4]);
    if (text.length() > 20) {
      n = numbers(text, 20);
      x.feed(n[0], n[1], n[2], n[3], n[4]);
    }
    x.end(text.length());
  }

  static int word(NearWords x, String text) {
    tape(x, text);
    return x.word();
  }

  static int text(NearWords x, String text) {
    tape(x, text);
    return x.text();
  }

  static NearWords withWords(String... words) {
    NearWords x = new NearWords();
    for (String w : words) {
      word(x, w);
    }
    return x;
  }

  static NearWords withTexts(String... texts) {
    NearWords x = new NearWords();
    for (String t : texts) {
      text(x, t);
    }
    return x;
  }

  /** All that count and of tell, but for the TAPE. */
  static String stateOf(NearWords x) {
    StringBuilder s = new StringBuilder();
    for (int what = 0; what < 15; what++) {
      s.append(what == 8 ? "" : x.count(what) + " ");
    }
    for (int w = 0; w < x.count(0); w++) {
      s.append('/');
      for (int what = 0; what <= x.count(5); what++) {
        s.append(x.of(w, what));
      }
    }
    return s.toString();
  }

  static void costAll(NearWords x, int v) {
    for (int a = 0; a < 4; a++) {
      for (int b = 0; b < a; b++) {
        x.cost(a, b, v);
      }
    }
  }

  static String centreOf(NearWords x) {
    StringBuilder s = new StringBuilder();
    for (int i = 0; x.centreAt(i) != NearWords.NONE; i++) {
      s.append((char) ('a' + x.centreAt(i)));
    }
    return s.toString();
  }

  static String medianOf(NearWords x) {
    StringBuilder s = new StringBuilder();
    for (int i = 0; x.medianAt(i) != NearWords.NONE; i++) {
      s.append((char) ('a' + x.medianAt(i)));
    }
    return s.toString();
  }

  static String middleOf(NearWords x) {
    StringBuilder s = new StringBuilder();
    for (int i = 0; x.middleAt(i) != NearWords.NONE; i++) {
      s.append((char) ('a' + x.middleAt(i)));
    }
    return s.toString();
  }

  static String motifOf(NearWords x, int m) {
    StringBuilder s = new StringBuilder();
    for (int i = 0; x.motifAt(m, i) != NearWords.NONE; i++) {
      s.append((char) ('a' + x.motifAt(m, i)));
    }
    return s.toString();
  }
}
