import java.util.NoSuchElementException;

/** The boundary cases of promises 32 to 34: THE MOTIF. */
final class MotifEdges {
  private MotifEdges() {
  }

  private static final String TWENTY_FOUR = "aaaaaaaaaaaaaaaaaabcdbcd";

  private static boolean throwsAt(NearWords x, int m, int text) {
    try {
      x.motifIn(m, text);
      return false;
    } catch (NoSuchElementException e) {
      return e.getClass() == NoSuchElementException.class;
    }
  }

  @Edge(promise = 32, says = "THE MOTIF of m LETTERS (1 to 6): its greatest DISTANCE.")
  static void theShortestMotifHasOneLetter(Checks c) {
    NearWords x = Checks.withTexts("a", "b", "c", "d");
    Checks.costAll(x, 9);
    c.due(x.motif(1), 9);
    c.due(Checks.withTexts("d").motif(1), 0);
  }

  @Edge(promise = 32, says = "THE MOTIF of m LETTERS (1 to 6): its greatest DISTANCE.")
  static void theLongestMotifHasSixLetters(Checks c) {
    c.due(Checks.withTexts("abcddc").motif(6), 0);
    NearWords x = Checks.withTexts("aaaaaa", "bbbbbb", "cccccc", "dddddd");
    Checks.costAll(x, 9);
    // Six places for four texts: some text has one place alone.
    c.due(x.motif(6), 45);
  }

  @Edge(promise = 32, says = "its greatest DISTANCE")
  static void theMotifOfFiveTexts(Checks c) {
    NearWords x = Checks.withTexts("aa", "aa", "aa", "aa", "bb");
    c.due(x.motif(2), 1);
    x = Checks.withTexts("aa", "aa", "aa", "aa", "ddaadd");
    c.due(x.motif(2), 0);
  }

  @Edge(promise = 32, says = "NONE: another m")
  static void aMotifHasOneToSixLetters(Checks c) {
    NearWords x = Checks.withTexts(TWENTY_FOUR);
    for (int bad : Checks.outside(1, 6)) {
      c.none(x.motif(bad));
    }
    for (int m = 1; m <= 6; m++) {
      c.due(x.motif(m), 0);
    }
  }

  @Edge(promise = 32, says = "no TEXT")
  static void noTextNoMotif(Checks c) {
    NearWords x = Checks.withWords("abcabc");
    for (int m = 1; m <= 6; m++) {
      c.none(x.motif(m));
      c.none(new NearWords().motif(m));
    }
  }

  @Edge(promise = 32, says = "one is shorter")
  static void aTextOfJustMLettersHasAMotif(Checks c) {
    for (int length = 1; length <= 6; length++) {
      NearWords x = Checks.withTexts(TWENTY_FOUR.substring(0, length));
      for (int m = 1; m <= 6; m++) {
        c.due(x.motif(m), m <= length ? 0 : NearWords.NONE);
      }
    }
  }

  @Edge(promise = 32, says = "one is shorter")
  static void aShorterTextAnywhereBarsAMotif(Checks c) {
    for (int shorter = 0; shorter < 5; shorter++) {
      NearWords x = new NearWords();
      for (int t = 0; t < 5; t++) {
        Checks.text(x, t == shorter ? "abc" : "abcd");
      }
      c.due(x.motif(3), 0);
      c.none(x.motif(4));
    }
  }

  @Edge(promise = 32, says = "one is shorter")
  static void aMotifEndsWhenAShorterTextComes(Checks c) {
    NearWords x = Checks.withTexts("abcd");
    c.due(x.motif(4), 0);
    Checks.text(x, "abc");
    c.none(x.motif(4));
    c.due(x.motif(3), 0);
  }

  @Edge(promise = 33, says = "LETTER i of THE MOTIF.")
  static void eachPlaceOfTheMotifHasItsLetter(Checks c) {
    NearWords x = Checks.withTexts("abcddc");
    int[] want = {0, 1, 2, 3, 3, 2};
    for (int i = 0; i < 6; i++) {
      c.due(x.motifAt(6, i), want[i]);
    }
    c.due(Checks.withTexts("d").motifAt(1, 0), 3);
  }

  @Edge(promise = 33, says = "NONE likewise")
  static void noLetterOfAMotifOfAnotherM(Checks c) {
    NearWords x = Checks.withTexts(TWENTY_FOUR);
    for (int bad : Checks.outside(1, 6)) {
      c.none(x.motifAt(bad, 0));
    }
    c.none(x.motifAt(0, -1));
    c.none(x.motifAt(7, 6));
  }

  @Edge(promise = 33, says = "NONE likewise")
  static void noTextNoLetterOfAMotif(Checks c) {
    for (int m = 1; m <= 6; m++) {
      c.none(new NearWords().motifAt(m, 0));
      c.none(Checks.withWords("abcabc").motifAt(m, 0));
    }
  }

  @Edge(promise = 33, says = "NONE likewise")
  static void aShorterTextBarsTheLettersOfAMotif(Checks c) {
    NearWords x = Checks.withTexts("abcd", "abc", "abcd");
    c.due(x.motifAt(3, 2), 2);
    for (int i = 0; i < 4; i++) {
      c.none(x.motifAt(4, i));
    }
  }

  @Edge(promise = 33, says = "or no such place")
  static void aMotifHasNoOtherPlaces(Checks c) {
    NearWords x = Checks.withTexts("bbbbbbb");
    for (int m = 1; m <= 6; m++) {
      c.due(x.motifAt(m, m - 1), 1);
      for (int bad : Checks.outside(0, m - 1)) {
        c.none(x.motifAt(m, bad));
      }
    }
  }

  @Edge(promise = 34, says = "Where its nearest PIECE of a TEXT begins.")
  static void aPieceMayBeginAtTheFirstPlace(Checks c) {
    NearWords x = Checks.withTexts("bcd", "bcdaaaaa", "b");
    c.due(x.motifIn(1, 0), 0);
    c.due(x.motifIn(1, 1), 0);
    c.due(x.motifIn(1, 2), 0);
  }

  @Edge(promise = 34, says = "Where its nearest PIECE of a TEXT begins.")
  static void aPieceMayEndAtTheLastPlace(Checks c) {
    for (int m = 1; m <= 6; m++) {
      NearWords x = Checks.withTexts("a".repeat(24 - m) + "b".repeat(m), "b".repeat(m));
      c.due(x.motif(m), 0);
      c.due(x.motifIn(m, 0), 24 - m);
      c.due(x.motifIn(m, 1), 0);
    }
  }

  @Edge(promise = 34, says = "Where its nearest PIECE of a TEXT begins.")
  static void ofSeveralPiecesTheFirst(Checks c) {
    NearWords x = Checks.withTexts("ccbbcbb", "bb");
    c.due(x.motif(2), 0);
    c.due(x.motifIn(2, 0), 2);
  }

  @Edge(promise = 34, says = "Where its nearest PIECE of a TEXT begins.")
  static void piecesOfTheFifthText(Checks c) {
    NearWords x = Checks.withTexts("bc", "abc", "aabc", "bca", "aaabc");
    int[] want = {0, 1, 2, 0, 3};
    for (int t = 0; t < 5; t++) {
      c.due(x.motifIn(2, t), want[t]);
    }
  }

  @Edge(promise = 34, says = "Where its nearest PIECE of a TEXT begins.")
  static void aPieceLiesWithinItsText(Checks c) {
    // Behind the b of the second text there is nothing that THE MOTIF a could be nearer to.
    NearWords x = Checks.withTexts("a", "b", "a");
    c.due(Checks.motifOf(x, 1), "a");
    c.due(x.motif(1), 1);
    c.due(x.motifIn(1, 1), 0);
    x = Checks.withTexts("ba", "ab", "bb");
    c.due(x.motif(2), 1);
    c.due(Checks.motifOf(x, 2), "bb");
    for (int t = 0; t < 3; t++) {
      c.due(x.motifIn(2, t), 0);
    }
  }

  @Edge(promise = 34, says = "NoSuchElementException: no such TEXT")
  static void noPieceOfATextThatIsNotThere(Checks c) {
    NearWords x = new NearWords();
    for (int size = 1; size <= 5; size++) {
      Checks.text(x, "abcabc");
      c.due(x.motifIn(3, size - 1), 0);
      for (int bad : Checks.outside(0, size - 1)) {
        c.yes(throwsAt(x, 3, bad));
      }
    }
  }

  @Edge(promise = 34, says = "or there is no MOTIF")
  static void noPieceOfAMotifOfAnotherM(Checks c) {
    NearWords x = Checks.withTexts(TWENTY_FOUR);
    for (int bad : Checks.outside(1, 6)) {
      c.yes(throwsAt(x, bad, 0));
    }
    for (int m = 1; m <= 6; m++) {
      c.no(throwsAt(x, m, 0));
    }
  }

  @Edge(promise = 34, says = "or there is no MOTIF")
  static void noPieceWithoutTexts(Checks c) {
    for (int m = 0; m <= 7; m++) {
      c.yes(throwsAt(new NearWords(), m, 0));
      c.yes(throwsAt(Checks.withWords("abcabc"), m, 0));
    }
  }

  @Edge(promise = 34, says = "or there is no MOTIF")
  static void noPieceOfAnyTextWhereOneIsShorter(Checks c) {
    NearWords x = Checks.withTexts("abcd", "abc", "abcd");
    for (int t = 0; t < 3; t++) {
      c.yes(throwsAt(x, 4, t));
      c.no(throwsAt(x, 3, t));
    }
  }
}
