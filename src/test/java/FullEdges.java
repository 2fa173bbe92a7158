/** A full room: eight WORDS of seven letters, five TEXTS of twenty-four. */
final class FullEdges {
  private static final int[] WHERE = {0, 18, 9, 1, 17};

  private FullEdges() {
  }

  /** WORD w has its only b at place w; the last WORD has none and so is THE CENTRE. */
  private static NearWords fullOfWords() {
    NearWords x = new NearWords();
    for (int w = 0; w < 8; w++) {
      StringBuilder row = new StringBuilder("aaaaaaaa");
      row.setCharAt(w, 'b');
      Checks.word(x, row.substring(0, 7));
    }
    return x;
  }

  /** Each TEXT has abcdab at a place of its own, among letters d. */
  private static NearWords fullOfTexts() {
    NearWords x = new NearWords();
    for (int at : WHERE) {
      Checks.text(x, "d".repeat(at) + "abcdab" + "d".repeat(18 - at));
    }
    return x;
  }

  @Edge(promise = 9, says = "eight are there")
  static void eightWordsOfSevenLettersKeepTheirLetters(Checks c) {
    NearWords x = fullOfWords();
    for (int w = 0; w < 8; w++) {
      for (int i = 0; i < 7; i++) {
        c.due(x.of(w, 1 + i), w == i ? 1 : 0);
      }
    }
  }

  @Edge(promise = 10, says = "five are there")
  static void fiveTextsOfTwentyFourLettersKeepTheirLetters(Checks c) {
    NearWords x = fullOfTexts();
    c.due(x.motif(6), 0);
    c.due(Checks.motifOf(x, 6), "abcdab");
    c.due(x.motif(1), 0);
    for (int t = 0; t < 5; t++) {
      c.due(x.count(10 + t), 24);
      c.due(x.motifIn(6, t), WHERE[t]);
      c.due(x.motifIn(1, t), WHERE[t]);
    }
  }

  @Edge(promise = 12, says = "The DISTANCE of two WORDS.")
  static void distancesInAFullRoom(Checks c) {
    NearWords x = fullOfWords();
    c.due(x.apart(7, 6), 1);
    c.due(x.apart(6, 5), 2);
    c.due(x.apart(0, 7), 1);
    x.swap(1);
    c.due(x.apart(6, 5), 1);
    c.due(x.apart(6, 4), 2);
  }

  @Edge(promise = 14, says = "The RADIUS of THE CENTRE.")
  static void theCentreOfAFullRoom(Checks c) {
    NearWords x = fullOfWords();
    c.due(x.centre(), 1);
    c.due(Checks.centreOf(x), "aaaaaaa");
    c.due(x.within(1), 1);
    c.due(x.within(0), 0);
    c.due(x.within(63), 16384);
    c.due(x.lettersAt(1, 6), 1);
    c.due(x.lettersAt(63, 6), 15);
    x.swap(1);
    c.due(x.centre(), 1);
    c.due(x.within(1), 1);
    c.due(x.within(0), 0);
  }

  @Edge(promise = 17, says = "LEFT OUT of it, as bits.")
  static void leftOutOfAFullRoom(Checks c) {
    NearWords x = fullOfWords();
    c.due(x.without(0), 1);
    c.due(x.leftOut(0), 0);
    c.due(x.without(6), 1);
    c.due(x.leftOut(6), 0);
    c.due(x.without(7), 0);
    c.due(x.leftOut(7), 127);
  }

  @Edge(promise = 22, says = "How many sets a COVER within r has")
  static void setsOfAFullRoom(Checks c) {
    NearWords x = fullOfWords();
    c.due(x.core(0), 2);
    c.due(x.coreSet(0), 3);
    c.due(x.core(1), 0);
    c.due(x.cover(0), 8);
    c.due(x.cover(1), 1);
    c.due(x.centres(7), 1);
    c.due(x.centres(8), 0);
  }

  @Edge(promise = 24, says = "EDITS from a WORD to another one.")
  static void editsInAFullRoom(Checks c) {
    NearWords x = fullOfWords();
    c.due(x.edits(7, 6), 1);
    c.due(x.edits(6, 7), 1);
    c.due(x.edits(0, 6), 2);
    Checks.costAll(x, 9);
    c.due(x.edits(7, 6), 4);
    c.due(x.edits(0, 6), 4);
    Checks.tape(x, "aaaaaaaa");
    c.due(x.editsFrom(7), 2);
    Checks.tape(x, "aaaaaaab");
    c.due(x.editsFrom(6), 2);
  }

  @Edge(promise = 26, says = "The least sum of EDITS")
  static void theMiddleOfAFullRoom(Checks c) {
    NearWords x = fullOfWords();
    c.due(x.middle(), 7);
    c.due(Checks.middleOf(x), "aaaaaaa");
    Checks.costAll(x, 9);
    x.drop(1);
    // A letter comes for each WORD.
    c.due(x.middle(), 8);
    c.due(Checks.middleOf(x), "aaaaaa");
  }

  @Edge(promise = 29, says = "The least sum")
  static void theMedianOfAFullRoom(Checks c) {
    NearWords x = fullOfWords();
    c.due(x.median(), 7);
    c.due(Checks.medianOf(x), "aaaaaaa");
    c.due(x.medians(), 1);
  }

  @Edge(promise = 32, says = "its greatest DISTANCE")
  static void theFifthOfFiveLongTextsCounts(Checks c) {
    NearWords x = new NearWords();
    for (int t = 0; t < 4; t++) {
      Checks.text(x, "ab" + "d".repeat(22));
    }
    Checks.text(x, "d".repeat(23) + "b");
    // An a is in all texts but the last, whose last letter is the b.
    c.due(x.motif(1), 0);
    c.due(Checks.motifOf(x, 1), "b");
    c.due(x.motifIn(1, 3), 1);
    c.due(x.motifIn(1, 4), 23);
  }
}
