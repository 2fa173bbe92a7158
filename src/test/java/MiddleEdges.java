/** The boundary cases of promises 26 to 28: THE MIDDLE. */
final class MiddleEdges {
  private MiddleEdges() {
  }

  private static NearWords[] withoutNearWords() {
    NearWords aside = Checks.withWords("ab", "cd");
    aside.part(0, 0);
    aside.part(1, 0);
    NearWords far = Checks.withWords("ab", "cd");
    far.part(0, 2);
    far.part(1, 2);
    return new NearWords[] {new NearWords(), Checks.withTexts("ab"), aside, far};
  }

  /** Changes are so dear that letters only come and go. */
  private static NearWords comingAndGoing(String... words) {
    NearWords x = Checks.withWords(words);
    Checks.costAll(x, 9);
    x.drop(1);
    return x;
  }

  @Edge(promise = 26, says = "The least sum of EDITS: THE MIDDLE's.")
  static void theLeastSumOfEditsIsZero(Checks c) {
    NearWords x = Checks.withWords("dcb");
    c.due(x.middle(), 0);
    Checks.word(x, "dcb");
    c.due(x.middle(), 0);
  }

  @Edge(promise = 26, says = "The least sum of EDITS: THE MIDDLE's.")
  static void theMiddleIsNeverEmpty(Checks c) {
    // No letters at all would have the sum 4.
    NearWords x = comingAndGoing("a", "b", "c", "d");
    c.due(x.middle(), 6);
    c.due(Checks.middleOf(x), "a");
  }

  @Edge(promise = 26, says = "The least sum of EDITS: THE MIDDLE's.")
  static void theMiddleIsNeverLongerThanEight(Checks c) {
    // Two letters go from cbabdccac for each WORD: that row would have the sum 10, but it has nine letters.
    NearWords x = comingAndGoing("abdccac", "cbabccc", "cbabdcc", "bbdccac", "cbaccac");
    c.due(x.middle(), 11);
    c.due(Checks.middleOf(x), "babdccac");
  }

  @Edge(promise = 26, says = "The least sum of EDITS: THE MIDDLE's.")
  static void farWordsAndGapsAreNothingToTheMiddle(Checks c) {
    NearWords x = Checks.withWords("ab", "ab", "dd");
    x.part(1, 2);
    x.part(2, 0);
    x.gap(63);
    c.none(x.centre());
    c.due(x.middle(), 0);
    c.due(Checks.middleOf(x), "ab");
  }

  @Edge(promise = 26, says = "The least sum of EDITS: THE MIDDLE's.")
  static void theMiddleOfEightWords(Checks c) {
    NearWords x = Checks.withWords("aa", "aa", "aa", "aa", "aa", "aa", "aa", "bb");
    c.due(x.middle(), 2);
    x.drop(9);
    c.due(x.middle(), 2);
    Checks.costAll(x, 9);
    c.due(x.middle(), 18);
    x.part(7, 0);
    c.due(x.middle(), 0);
  }

  @Edge(promise = 26, says = "The least sum of EDITS: THE MIDDLE's.")
  static void theMiddleNeedBeNoWord(Checks c) {
    NearWords x = Checks.withWords("a", "b");
    x.cost(0, 1, 9);
    x.drop(9);
    c.due(x.middle(), 2);
    c.due(Checks.middleOf(x), "c");
    x = Checks.withWords("ccc", "aba");
    x.drop(6);
    x.cost(0, 2, 5);
    x.cost(1, 2, 3);
    x.cost(1, 3, 5);
    x.cost(2, 3, 2);
    // Between c and a the d is cheapest (3), between c and b these two are (3).
    c.due(x.middle(), 9);
    c.due(Checks.middleOf(x), "dbd");
  }

  @Edge(promise = 26, says = "The least sum of EDITS: THE MIDDLE's.")
  static void wordsThatHaveNoLetterInCommon(Checks c) {
    // All of one WORD goes and all of the other comes, wherever between them THE MIDDLE is.
    NearWords x = comingAndGoing("ab", "dd");
    c.due(x.middle(), 4);
    c.due(Checks.middleOf(x), "a");
    x = comingAndGoing("abababa", "ddddddd");
    c.due(x.middle(), 14);
    c.due(Checks.middleOf(x), "a");
  }

  @Edge(promise = 26, says = "NONE: there is no NEAR WORD.")
  static void noNearWordNoMiddle(Checks c) {
    for (NearWords x : withoutNearWords()) {
      c.none(x.middle());
    }
  }

  @Edge(promise = 27, says = "How many LETTERS THE MIDDLE has.")
  static void theMiddleMayHaveOneLetter(Checks c) {
    c.due(Checks.withWords("d").middleLength(), 1);
    NearWords x = comingAndGoing("ab", "cb", "bd", "ba");
    c.due(x.middleLength(), 1);
    c.due(Checks.middleOf(x), "b");
  }

  @Edge(promise = 27, says = "How many LETTERS THE MIDDLE has.")
  static void theMiddleMayHaveEightLetters(Checks c) {
    NearWords x = comingAndGoing("caabcab", "bcaabca", "caabcab", "bcaabca", "bcaabcb", "bcaabcb");
    c.due(x.middleLength(), 8);
    c.due(Checks.middleOf(x), "bcaabcab");
  }

  @Edge(promise = 27, says = "How many LETTERS THE MIDDLE has.")
  static void ofSeveralTheShortest(Checks c) {
    // The WORDS have the sum 2, too, and so has abc; two of these come ahead of b.
    NearWords x = comingAndGoing("ab", "bc");
    c.due(x.middle(), 2);
    c.due(x.middleLength(), 1);
    c.due(Checks.middleOf(x), "b");
  }

  @Edge(promise = 27, says = "NONE likewise.")
  static void noNearWordNoLengthOfTheMiddle(Checks c) {
    for (NearWords x : withoutNearWords()) {
      c.none(x.middleLength());
    }
    NearWords x = Checks.withWords("ab");
    c.due(x.middleLength(), 2);
    x.part(0, 0);
    c.none(x.middleLength());
  }

  @Edge(promise = 28, says = "LETTER i of THE MIDDLE.")
  static void eachPlaceOfTheMiddleHasItsLetter(Checks c) {
    NearWords x = Checks.withWords("abcddcb");
    int[] want = {0, 1, 2, 3, 3, 2, 1};
    for (int i = 0; i < 7; i++) {
      c.due(x.middleAt(i), want[i]);
    }
    c.due(Checks.withWords("d").middleAt(0), 3);
  }

  @Edge(promise = 28, says = "LETTER i of THE MIDDLE.")
  static void theEighthPlaceOfTheMiddle(Checks c) {
    NearWords x = comingAndGoing("caabcab", "bcaabca", "caabcab", "bcaabca", "bcaabcb", "bcaabcb");
    c.due(x.middleAt(0), 1);
    c.due(x.middleAt(7), 1);
    c.none(x.middleAt(8));
  }

  @Edge(promise = 28, says = "NONE likewise")
  static void noNearWordNoLetterOfTheMiddle(Checks c) {
    for (NearWords x : withoutNearWords()) {
      c.none(x.middleAt(0));
    }
    NearWords x = Checks.withWords("ab");
    c.due(x.middleAt(1), 1);
    x.part(0, 2);
    c.none(x.middleAt(0));
    c.none(x.middleAt(1));
  }

  @Edge(promise = 28, says = "or no such place")
  static void theMiddleHasNoOtherPlaces(Checks c) {
    for (int length = 1; length <= 7; length++) {
      NearWords x = Checks.withWords("b".repeat(length));
      c.due(x.middleAt(length - 1), 1);
      for (int bad : Checks.outside(0, length - 1)) {
        c.none(x.middleAt(bad));
      }
    }
  }

  @Edge(promise = 28, says = "or no such place")
  static void aShorterMiddleLosesItsLastPlaces(Checks c) {
    NearWords x = comingAndGoing("ab", "bc");
    x.part(1, 0);
    c.due(Checks.middleOf(x), "ab");
    x.part(1, 1);
    c.due(x.middleAt(0), 1);
    c.none(x.middleAt(1));
  }
}
