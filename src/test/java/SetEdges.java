/** The boundary cases of promises 20 to 23: sets of NEAR WORDS that are HELD or not. */
final class SetEdges {
  private SetEdges() {
  }

  private static final String[] ALL_OF_THREE = {"aaa", "aab", "aba", "abb", "baa", "bab", "bba", "bbb"};

  /** Each row of three letters, so that each WORD is as far as can be from the one that is turned round. */
  private static NearWords allOfThree() {
    NearWords x = new NearWords();
    x.letters(2);
    for (String s : ALL_OF_THREE) {
      Checks.word(x, s);
    }
    return x;
  }

  private static NearWords[] withoutNearWords() {
    NearWords aside = Checks.withWords("ab", "cd");
    aside.part(0, 0);
    aside.part(1, 0);
    NearWords far = Checks.withWords("ab", "cd");
    far.part(0, 2);
    far.part(1, 2);
    return new NearWords[] {new NearWords(), Checks.withTexts("ab"), aside, far};
  }

  /** The first WORD is ASIDE, the second NEAR, the third FAR; with GAP 3 there is no CANDIDATE. */
  private static NearWords nearAndFar(int gap) {
    NearWords x = Checks.withWords("bb", "ab", "ab");
    x.part(0, 0);
    x.part(2, 2);
    x.gap(gap);
    return x;
  }

  /** The only CANDIDATE, bbbbbbb, is 63 away from the NEAR WORD. */
  private static NearWords asFarAsCanBe() {
    NearWords x = new NearWords();
    x.letters(2);
    Checks.word(x, "aaaaaaa");
    Checks.word(x, "aaaaaaa");
    x.part(1, 2);
    x.cost(0, 1, 9);
    x.gap(63);
    return x;
  }

  @Edge(promise = 20, says = "How many WORDS a CORE within r has")
  static void aCoreMayBeOneWord(Checks c) {
    NearWords x = nearAndFar(2);
    c.due(x.core(0), 1);
    c.due(x.core(1), 1);
    c.due(x.core(2), 0);
  }

  @Edge(promise = 20, says = "How many WORDS a CORE within r has")
  static void aCoreMayBeAllEightWords(Checks c) {
    NearWords x = allOfThree();
    c.due(x.core(2), 8);
    c.due(x.core(1), 2);
    c.due(x.core(3), 0);
    x.part(7, 0);
    c.due(x.core(2), 0);
  }

  @Edge(promise = 20, says = "0: all NEAR WORDS are HELD.")
  static void withoutACoreThereAreNoWordsOfIt(Checks c) {
    NearWords x = Checks.withWords("aa", "bb");
    c.due(x.core(0), 2);
    c.due(x.core(1), 0);
    c.due(x.core(63), 0);
    c.due(Checks.withWords("ab").core(0), 0);
    x.part(1, 2);
    c.due(x.core(0), 0);
  }

  @Edge(promise = 20, says = "0: all NEAR WORDS are HELD.")
  static void heldWithinSixtyThreeAndNoLess(Checks c) {
    NearWords x = asFarAsCanBe();
    c.due(x.core(62), 1);
    c.due(x.core(63), 0);
  }

  @Edge(promise = 20, says = "0: all NEAR WORDS are HELD.")
  static void noCandidateHoldsNoWord(Checks c) {
    c.due(nearAndFar(3).core(0), 1);
    c.due(nearAndFar(3).core(63), 1);
  }

  @Edge(promise = 20, says = "all NEAR WORDS are HELD")
  static void aCandidateHoldsAlsoWhatIsNotNearestToIt(Checks c) {
    // The only CANDIDATE is b: it holds the NEAR WORD a, too, though another WORD, the first or the last, is nearer.
    for (int b = 0; b < 8; b++) {
      NearWords x = new NearWords();
      x.letters(2);
      for (int w = 0; w < 8; w++) {
        Checks.word(x, w == b ? "b" : "a");
      }
      int far = (b + 1) % 8;
      x.part(far, 2);
      x.gap(1);
      int first = 0;
      while (first == b || first == far) {
        first++;
      }
      c.due(x.core(0), 1);
      c.due(x.coreSet(0), 1 << first);
      c.due(x.core(1), 0);
      c.due(x.cover(0), -2);
      c.due(x.cover(1), 1);
      c.due(x.without(0), 1);
    }
  }

  @Edge(promise = 20, says = "NONE likewise.")
  static void noCoreWithinAnotherR(Checks c) {
    NearWords x = Checks.withWords("aa", "bb");
    for (int bad : Checks.outside(0, 63)) {
      c.none(x.core(bad));
    }
    c.due(x.core(0), 2);
    c.due(x.core(63), 0);
  }

  @Edge(promise = 20, says = "NONE likewise.")
  static void noNearWordNoCore(Checks c) {
    for (NearWords x : withoutNearWords()) {
      c.none(x.core(0));
      c.none(x.core(63));
    }
  }

  @Edge(promise = 21, says = "That CORE as bits (0 without one).")
  static void theFirstAndTheLastWordOfACoreHaveTheirBits(Checks c) {
    NearWords x = Checks.withWords("aa", "aa", "aa", "aa", "aa", "aa", "aa", "bb");
    c.due(x.coreSet(0), 129);
    x = nearAndFar(2);
    c.due(x.coreSet(0), 2);
    c.due(allOfThree().coreSet(2), 255);
  }

  @Edge(promise = 21, says = "That CORE as bits (0 without one).")
  static void ofSeveralCoresTheLeastAsBits(Checks c) {
    NearWords x = allOfThree();
    // Each WORD and its opposite one are a CORE within 1: words 0 and 7, 1 and 6, 2 and 5, 3 and 4.
    c.due(x.coreSet(1), 24);
    x.part(3, 0);
    c.due(x.coreSet(1), 36);
    x.part(2, 2);
    c.due(x.coreSet(1), 66);
    x.part(6, 2);
    c.due(x.coreSet(1), 129);
  }

  @Edge(promise = 21, says = "(0 without one)")
  static void withoutACoreThereAreNoBits(Checks c) {
    NearWords x = Checks.withWords("aa", "bb");
    c.due(x.coreSet(0), 3);
    c.due(x.coreSet(1), 0);
    c.due(x.coreSet(63), 0);
    c.due(asFarAsCanBe().coreSet(62), 1);
    c.due(asFarAsCanBe().coreSet(63), 0);
  }

  @Edge(promise = 21, says = "That CORE as bits")
  static void withoutACandidateTheFirstNearWordIsACore(Checks c) {
    c.due(nearAndFar(3).coreSet(0), 2);
    c.due(nearAndFar(3).coreSet(63), 2);
  }

  @Edge(promise = 21, says = "NONE likewise.")
  static void noCoreSetWithinAnotherR(Checks c) {
    NearWords x = Checks.withWords("aa", "bb");
    for (int bad : Checks.outside(0, 63)) {
      c.none(x.coreSet(bad));
    }
  }

  @Edge(promise = 21, says = "NONE likewise.")
  static void noNearWordNoCoreSet(Checks c) {
    for (NearWords x : withoutNearWords()) {
      c.none(x.coreSet(0));
      c.none(x.coreSet(63));
    }
  }

  @Edge(promise = 22, says = "How many sets a COVER within r has")
  static void aCoverMayBeOneSet(Checks c) {
    c.due(Checks.withWords("ab").cover(0), 1);
    NearWords x = allOfThree();
    c.due(x.cover(3), 1);
    c.due(x.cover(63), 1);
    c.due(x.cover(2), 2);
  }

  @Edge(promise = 22, says = "How many sets a COVER within r has")
  static void aCoverMayBeEightSets(Checks c) {
    NearWords x = allOfThree();
    c.due(x.cover(0), 8);
    x.part(7, 0);
    c.due(x.cover(0), 7);
  }

  @Edge(promise = 22, says = "How many sets a COVER within r has")
  static void aSetIsHeldWithinJustR(Checks c) {
    NearWords x = Checks.withWords("aa", "bb");
    c.due(x.cover(0), 2);
    c.due(x.cover(1), 1);
    x = asFarAsCanBe();
    c.due(x.cover(62), -2);
    c.due(x.cover(63), 1);
  }

  @Edge(promise = 22, says = "-2: there is none.")
  static void noCoverWhereOneWordIsNotHeld(Checks c) {
    // The word ab is barred, the others are not.
    NearWords x = Checks.withWords("ab", "dd", "ab", "cc");
    x.part(0, 2);
    x.gap(1);
    c.due(x.cover(0), -2);
    c.due(x.cover(1), 2);
    x.part(2, 0);
    c.due(x.cover(0), 2);
  }

  @Edge(promise = 22, says = "-2: there is none.")
  static void noCandidateNoCover(Checks c) {
    c.due(nearAndFar(3).cover(0), -2);
    c.due(nearAndFar(3).cover(63), -2);
    c.due(nearAndFar(2).cover(63), 1);
  }

  @Edge(promise = 22, says = "NONE likewise.")
  static void noCoverWithinAnotherR(Checks c) {
    NearWords x = Checks.withWords("aa", "bb");
    for (int bad : Checks.outside(0, 63)) {
      c.none(x.cover(bad));
    }
    c.due(x.cover(0), 2);
    c.due(x.cover(63), 1);
  }

  @Edge(promise = 22, says = "NONE likewise.")
  static void noNearWordNoCover(Checks c) {
    for (NearWords x : withoutNearWords()) {
      c.none(x.cover(0));
      c.none(x.cover(63));
    }
  }

  @Edge(promise = 23, says = "The least r (0 to 63)")
  static void theLeastRMayBeZero(Checks c) {
    c.due(Checks.withWords("ab").centres(1), 0);
    c.due(Checks.withWords("ab", "ab").centres(1), 0);
  }

  @Edge(promise = 23, says = "The least r (0 to 63)")
  static void theLeastRMayBeSixtyThree(Checks c) {
    NearWords x = asFarAsCanBe();
    for (int k = 1; k <= 8; k++) {
      c.due(x.centres(k), 63);
    }
  }

  @Edge(promise = 23, says = "within which a COVER has k sets (1 to 8)")
  static void oneSetIsHeldWithinTheRadius(Checks c) {
    NearWords x = allOfThree();
    c.due(x.centres(1), 3);
    c.due(x.centres(1), x.centre());
  }

  @Edge(promise = 23, says = "within which a COVER has k sets (1 to 8)")
  static void eightSetsAreHeldWithinZero(Checks c) {
    NearWords x = allOfThree();
    // Two sets within 1 are aaa and bbb with those next to them.
    int[] want = {3, 1, 1, 1, 1, 1, 1, 0};
    for (int k = 1; k <= 8; k++) {
      c.due(x.centres(k), want[k - 1]);
    }
  }

  @Edge(promise = 23, says = "or less.")
  static void fewerSetsThanKWillDo(Checks c) {
    NearWords x = Checks.withWords("aa", "bb");
    c.due(x.centres(1), 1);
    for (int k = 2; k <= 8; k++) {
      c.due(x.centres(k), 0);
    }
  }

  @Edge(promise = 23, says = "NONE: another k")
  static void noSetsOrMoreThanEightAreNone(Checks c) {
    NearWords x = allOfThree();
    for (int bad : Checks.outside(1, 8)) {
      c.none(x.centres(bad));
    }
    c.due(x.centres(1), 3);
    c.due(x.centres(8), 0);
  }

  @Edge(promise = 23, says = "no NEAR WORD")
  static void noNearWordNoCentres(Checks c) {
    for (NearWords x : withoutNearWords()) {
      for (int k = 1; k <= 8; k++) {
        c.none(x.centres(k));
      }
    }
  }

  @Edge(promise = 23, says = "there is no such r")
  static void noCandidateNoCentres(Checks c) {
    NearWords x = nearAndFar(3);
    for (int k = 1; k <= 8; k++) {
      c.none(x.centres(k));
    }
    x.gap(2);
    c.due(x.centres(1), 2);
  }
}
