/**
 * The boundary cases of promises 14, 15, 18, 19 and 29 to 31: THE CENTRE, THE MEDIAN, and how many CANDIDATES are
 * within a distance.
 */
final class CandidateEdges {
  private CandidateEdges() {
  }

  /** One NEAR WORD and FAR ones: the greatest GAP that leaves a CANDIDATE is the greatest DISTANCE, 3 here. */
  private static NearWords nearAndFar(int gap) {
    NearWords x = Checks.withWords("abc", "abc");
    x.part(1, 2);
    x.gap(gap);
    return x;
  }

  /** The only CANDIDATE is bbbbbbb, 63 away from the first WORD and from those that are like it. */
  private static NearWords asFarAsCanBe(int alike) {
    NearWords x = new NearWords();
    x.letters(2);
    for (int w = 0; w <= alike; w++) {
      Checks.word(x, "aaaaaaa");
    }
    x.part(alike, 2);
    x.cost(0, 1, 9);
    x.gap(63);
    return x;
  }

  /** Rooms without a NEAR WORD: without any, with ASIDE ones, with FAR ones. */
  private static NearWords[] withoutNearWords() {
    NearWords aside = Checks.withWords("ab", "cd");
    aside.part(0, 0);
    aside.part(1, 0);
    NearWords far = Checks.withWords("ab", "cd");
    far.part(0, 2);
    far.part(1, 2);
    NearWords both = Checks.withWords("ab", "cd");
    both.part(0, 2);
    both.part(1, 0);
    both.gap(63);
    return new NearWords[] {new NearWords(), Checks.withTexts("ab"), aside, far, both};
  }

  @Edge(promise = 14, says = "The RADIUS of THE CENTRE.")
  static void theLeastRadiusIsZero(Checks c) {
    NearWords x = Checks.withWords("dcba");
    c.due(x.centre(), 0);
    Checks.word(x, "dcba");
    c.due(x.centre(), 0);
  }

  @Edge(promise = 14, says = "The RADIUS of THE CENTRE.")
  static void theGreatestRadiusIsSixtyThree(Checks c) {
    c.due(asFarAsCanBe(1).centre(), 63);
  }

  @Edge(promise = 14, says = "The RADIUS of THE CENTRE.")
  static void theCentreOfEightWords(Checks c) {
    NearWords x = Checks.withWords("aaa", "aaa", "aaa", "aaa", "aaa", "aaa", "aaa", "ddd");
    c.due(x.centre(), 2);
    x.part(7, 0);
    c.due(x.centre(), 0);
  }

  @Edge(promise = 14, says = "NONE: there is no NEAR WORD")
  static void noNearWordNoCentre(Checks c) {
    for (NearWords x : withoutNearWords()) {
      c.none(x.centre());
    }
  }

  @Edge(promise = 14, says = "or no CANDIDATE")
  static void noCandidateNoCentre(Checks c) {
    c.due(nearAndFar(3).centre(), 3);
    c.none(nearAndFar(4).centre());
    c.none(nearAndFar(63).centre());
  }

  @Edge(promise = 15, says = "LETTER i (0 is a) of THE CENTRE.")
  static void eachPlaceOfTheCentreHasItsLetter(Checks c) {
    NearWords x = Checks.withWords("abcddcb");
    int[] want = {0, 1, 2, 3, 3, 2, 1};
    for (int i = 0; i < 7; i++) {
      c.due(x.centreAt(i), want[i]);
    }
    c.due(Checks.withWords("d").centreAt(0), 3);
  }

  @Edge(promise = 15, says = "NONE likewise")
  static void noNearWordNoLetterOfTheCentre(Checks c) {
    for (NearWords x : withoutNearWords()) {
      c.none(x.centreAt(0));
    }
  }

  @Edge(promise = 15, says = "NONE likewise")
  static void noCandidateNoLetterOfTheCentre(Checks c) {
    c.due(Checks.centreOf(nearAndFar(3)), "baa");
    for (int i = 0; i < 3; i++) {
      c.none(nearAndFar(4).centreAt(i));
    }
  }

  @Edge(promise = 15, says = "or no such place")
  static void theCentreHasNoOtherPlaces(Checks c) {
    for (int length = 1; length <= 7; length++) {
      NearWords x = Checks.withWords("b".repeat(length));
      c.due(x.centreAt(length - 1), 1);
      for (int bad : Checks.outside(0, length - 1)) {
        c.none(x.centreAt(bad));
      }
    }
  }

  @Edge(promise = 18, says = "How many CANDIDATES have a RADIUS of r (0 to 63) or less.")
  static void aRadiusOfJustRIsWithinIt(Checks c) {
    NearWords x = Checks.withWords("aa", "bb");
    c.due(x.within(0), 0);
    c.due(x.within(1), 2);
    c.due(x.within(2), 16);
    c.due(x.within(3), 16);
    c.due(Checks.withWords("ab").within(0), 1);
  }

  @Edge(promise = 18, says = "r (0 to 63)")
  static void theGreatestRIsSixtyThree(Checks c) {
    NearWords x = asFarAsCanBe(1);
    c.due(x.within(63), 1);
    c.due(x.within(62), 0);
  }

  @Edge(promise = 18, says = "How many CANDIDATES")
  static void theMostCandidates(Checks c) {
    NearWords x = Checks.withWords("abcdabc");
    c.due(x.within(63), 16384);
    c.due(x.within(7), 16384);
    c.due(x.within(6), 16384 - 2187);
    c.due(x.within(0), 1);
  }

  @Edge(promise = 18, says = "How many CANDIDATES")
  static void noCandidateIsNoneWithin(Checks c) {
    c.due(nearAndFar(3).within(63), 27);
    c.due(nearAndFar(4).within(63), 0);
    c.due(nearAndFar(4).within(0), 0);
  }

  @Edge(promise = 18, says = "NONE: another r")
  static void withinIsZeroToSixtyThree(Checks c) {
    NearWords x = Checks.withWords("ab");
    for (int bad : Checks.outside(0, 63)) {
      c.none(x.within(bad));
    }
    c.due(x.within(0), 1);
    c.due(x.within(63), 16);
  }

  @Edge(promise = 18, says = "no NEAR WORD")
  static void noNearWordNoneWithin(Checks c) {
    for (NearWords x : withoutNearWords()) {
      c.none(x.within(0));
      c.none(x.within(63));
    }
  }

  @Edge(promise = 19, says = "Which LETTERS some of these have at place i, as bits (bit 0: a).")
  static void eachLetterHasItsBit(Checks c) {
    NearWords x = Checks.withWords("abcddcb");
    int[] want = {1, 2, 4, 8, 8, 4, 2};
    for (int i = 0; i < 7; i++) {
      c.due(x.lettersAt(0, i), want[i]);
      c.due(x.lettersAt(1, i), 15);
    }
  }

  @Edge(promise = 19, says = "some of these")
  static void lettersOfARadiusOfJustR(Checks c) {
    NearWords x = Checks.withWords("ac", "bc");
    x.cost(0, 1, 3);
    x.cost(0, 2, 9);
    x.cost(1, 3, 9);
    // ac and bc are 3 away at most, cc and dc 9; with another second letter 1 more.
    c.due(x.lettersAt(2, 0), 0);
    c.due(x.lettersAt(3, 0), 3);
    c.due(x.lettersAt(3, 1), 4);
    c.due(x.lettersAt(4, 1), 14);
    c.due(x.lettersAt(8, 0), 3);
    c.due(x.lettersAt(9, 0), 15);
    c.due(x.lettersAt(63, 1), 15);
  }

  @Edge(promise = 19, says = "some of these")
  static void noneHaveNoLetters(Checks c) {
    NearWords x = Checks.withWords("aa", "bb");
    c.due(x.lettersAt(0, 0), 0);
    c.due(x.lettersAt(0, 1), 0);
    c.due(nearAndFar(4).lettersAt(63, 2), 0);
  }

  @Edge(promise = 19, says = "some of these")
  static void lettersOfTheGreatestR(Checks c) {
    NearWords x = asFarAsCanBe(1);
    c.due(x.lettersAt(63, 6), 2);
    c.due(x.lettersAt(62, 6), 0);
    x = new NearWords();
    x.letters(3);
    Checks.word(x, "aaaaaaa");
    c.due(x.lettersAt(63, 0), 7);
    c.due(x.lettersAt(63, 6), 7);
  }

  @Edge(promise = 19, says = "NONE likewise")
  static void noLettersWithinAnotherR(Checks c) {
    NearWords x = Checks.withWords("ab");
    for (int bad : Checks.outside(0, 63)) {
      c.none(x.lettersAt(bad, 0));
      c.none(x.lettersAt(bad, 1));
    }
    c.due(x.lettersAt(0, 1), 2);
    c.due(x.lettersAt(63, 1), 15);
  }

  @Edge(promise = 19, says = "NONE likewise")
  static void noNearWordNoLettersWithin(Checks c) {
    for (NearWords x : withoutNearWords()) {
      c.none(x.lettersAt(0, 0));
      c.none(x.lettersAt(63, 1));
    }
  }

  @Edge(promise = 19, says = "or no such place")
  static void noLettersAtOtherPlaces(Checks c) {
    for (int length = 1; length <= 7; length++) {
      NearWords x = Checks.withWords("b".repeat(length));
      c.due(x.lettersAt(0, length - 1), 2);
      for (int bad : Checks.outside(0, length - 1)) {
        c.none(x.lettersAt(63, bad));
        c.none(x.lettersAt(0, bad));
      }
    }
  }

  @Edge(promise = 29, says = "The least sum: THE MEDIAN's.")
  static void theLeastSumOfAllIsZero(Checks c) {
    NearWords x = Checks.withWords("dcb");
    c.due(x.median(), 0);
    Checks.word(x, "dcb");
    c.due(x.median(), 0);
  }

  @Edge(promise = 29, says = "The least sum: THE MEDIAN's.")
  static void theGreatestLeastSum(Checks c) {
    c.due(asFarAsCanBe(7).median(), 441);
  }

  @Edge(promise = 29, says = "The least sum: THE MEDIAN's.")
  static void theMedianOfEightWords(Checks c) {
    NearWords x = Checks.withWords("aa", "aa", "aa", "aa", "bb", "bb", "bb", "bb");
    c.due(x.median(), 8);
    x.part(7, 0);
    c.due(x.median(), 6);
  }

  @Edge(promise = 29, says = "NONE: there is no NEAR WORD")
  static void noNearWordNoMedian(Checks c) {
    for (NearWords x : withoutNearWords()) {
      c.none(x.median());
    }
  }

  @Edge(promise = 29, says = "or no CANDIDATE")
  static void noCandidateNoMedian(Checks c) {
    c.due(nearAndFar(3).median(), 3);
    c.none(nearAndFar(4).median());
    c.none(nearAndFar(63).median());
  }

  @Edge(promise = 30, says = "LETTER i of THE MEDIAN.")
  static void eachPlaceOfTheMedianHasItsLetter(Checks c) {
    NearWords x = Checks.withWords("abcddcb");
    int[] want = {0, 1, 2, 3, 3, 2, 1};
    for (int i = 0; i < 7; i++) {
      c.due(x.medianAt(i), want[i]);
    }
    c.due(Checks.withWords("d").medianAt(0), 3);
  }

  @Edge(promise = 30, says = "NONE likewise")
  static void noNearWordNoLetterOfTheMedian(Checks c) {
    for (NearWords x : withoutNearWords()) {
      c.none(x.medianAt(0));
    }
  }

  @Edge(promise = 30, says = "NONE likewise")
  static void noCandidateNoLetterOfTheMedian(Checks c) {
    c.due(Checks.medianOf(nearAndFar(3)), "baa");
    for (int i = 0; i < 3; i++) {
      c.none(nearAndFar(4).medianAt(i));
    }
  }

  @Edge(promise = 30, says = "or no such place")
  static void theMedianHasNoOtherPlaces(Checks c) {
    for (int length = 1; length <= 7; length++) {
      NearWords x = Checks.withWords("b".repeat(length));
      c.due(x.medianAt(length - 1), 1);
      for (int bad : Checks.outside(0, length - 1)) {
        c.none(x.medianAt(bad));
      }
    }
  }

  @Edge(promise = 31, says = "How many CANDIDATES have that sum.")
  static void oneCandidateHasTheLeastSum(Checks c) {
    c.due(Checks.withWords("abc").medians(), 1);
    c.due(asFarAsCanBe(7).medians(), 1);
  }

  @Edge(promise = 31, says = "How many CANDIDATES have that sum.")
  static void allCandidatesHaveTheLeastSum(Checks c) {
    NearWords x = Checks.withWords("aaaaaaa", "bbbbbbb", "ccccccc", "ddddddd");
    c.due(x.median(), 21);
    c.due(x.medians(), 16384);
    c.due(nearAndFar(3).medians(), 27);
  }

  @Edge(promise = 31, says = "NONE likewise.")
  static void noNearWordNoMedians(Checks c) {
    for (NearWords x : withoutNearWords()) {
      c.none(x.medians());
    }
  }

  @Edge(promise = 31, says = "NONE likewise.")
  static void noCandidateNoMedians(Checks c) {
    c.none(nearAndFar(4).medians());
    c.none(nearAndFar(63).medians());
  }
}
