/** What the tests share: counting wrong answers, and putting texts on the TAPE. */
final class Checks {
  private int wrong = 0;
  private int checked = 0;

  void due(String what, long got, long want) {
    checked++;
    if (got != want) {
      wrong++;
      System.out.println(what + " answered " + got + ", due is " + want);
    }
  }

  void due(String what, boolean got, boolean want) {
    due(what, got ? 1 : 0, want ? 1 : 0);
  }

  void due(String what, String got, String want) {
    checked++;
    if (!got.equals(want)) {
      wrong++;
      System.out.println(what + " answered " + got + ", due is " + want);
    }
  }

  void finish() {
    System.out.println(checked + " answers, " + wrong + " not as due");
    if (wrong > 0 || checked == 0) {
      System.exit(1);
    }
  }

  /** The five numbers that bring twenty bytes of a text from a place on, filled up with blanks. */
  static int[] numbers(String text, int from) {
    int[] five = new int[5];
    for (int i = 0; i < 20; i++) {
      int sign = from + i < text.length() ? text.charAt(from + i) & 255 : ' ';
      five[i / 4] = five[i / 4] << 8 | sign;
    }
    return five;
  }

  /** Makes the TAPE, which is to be empty, hold a text of at most 40 signs. */
  static void tape(NearWords x, String text) {
    int[] n = numbers(text, 0);
    x.feed(n[0], n[1], n[2], n[3], n[4]);
    if (text.length() > 20) {
      n = numbers(text, 20);
      x.feed(n[0], n[1], n[2], n[3], n[4]);
    }
    x.end(text.length());
  }

  static int word(NearWords x, String text) {
    tape(x, text);
    return x.word();
  }

  static int text(NearWords x, String text) {
    tape(x, text);
    return x.text();
  }

  static NearWords withWords(String... words) {
    NearWords x = new NearWords();
    for (String w : words) {
      word(x, w);
    }
    return x;
  }

  static NearWords withTexts(String... texts) {
    NearWords x = new NearWords();
    for (String t : texts) {
      text(x, t);
    }
    return x;
  }

  static String centreOf(NearWords x) {
    StringBuilder s = new StringBuilder();
    for (int i = 0; x.centreAt(i) != NearWords.NONE; i++) {
      s.append((char) ('a' + x.centreAt(i)));
    }
    return s.toString();
  }

  static String medianOf(NearWords x) {
    StringBuilder s = new StringBuilder();
    for (int i = 0; x.medianAt(i) != NearWords.NONE; i++) {
      s.append((char) ('a' + x.medianAt(i)));
    }
    return s.toString();
  }

  static String middleOf(NearWords x) {
    StringBuilder s = new StringBuilder();
    for (int i = 0; x.middleAt(i) != NearWords.NONE; i++) {
      s.append((char) ('a' + x.middleAt(i)));
    }
    return s.toString();
  }

  static String motifOf(NearWords x, int m) {
    StringBuilder s = new StringBuilder();
    for (int i = 0; x.motifAt(m, i) != NearWords.NONE; i++) {
      s.append((char) ('a' + x.motifAt(m, i)));
    }
    return s.toString();
  }
}
