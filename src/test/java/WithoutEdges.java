/** The boundary cases of promises 16 and 17: the nearest to all but a few, and those few. */
final class WithoutEdges {
  private WithoutEdges() {
  }

  /** The NEAR WORD is no CANDIDATE: the nearest one is ab, one away, and that is the first of all, too. */
  private static NearWords barred() {
    NearWords x = Checks.withWords("aa", "aa");
    x.part(1, 2);
    x.gap(1);
    return x;
  }

  /** No row of two letters is three away from the FAR WORD. */
  private static NearWords noCandidate() {
    NearWords x = Checks.withWords("aa", "bb", "cc");
    x.part(2, 2);
    x.gap(3);
    return x;
  }

  private static NearWords[] withoutNearWords() {
    NearWords aside = Checks.withWords("ab", "cd");
    aside.part(0, 0);
    aside.part(1, 0);
    NearWords far = Checks.withWords("ab", "cd");
    far.part(0, 2);
    far.part(1, 2);
    return new NearWords[] {new NearWords(), Checks.withTexts("ab"), aside, far};
  }

  private static NearWords eight() {
    return Checks.withWords("bb", "cc", "dd", "bc", "bd", "cd", "cb", "db");
  }

  @Edge(promise = 16, says = "WITHOUT k (0 to 7): that DISTANCE")
  static void withoutNoneIsTheRadius(Checks c) {
    NearWords x = Checks.withWords("aaaa", "bbbb", "aaab");
    c.due(x.without(0), 2);
    c.due(x.without(0), x.centre());
  }

  @Edge(promise = 16, says = "WITHOUT k (0 to 7): that DISTANCE")
  static void withoutOneIsTheSecondGreatest(Checks c) {
    NearWords x = Checks.withWords("aaaa", "bbbb", "aaab");
    c.due(x.without(1), 1);
    c.due(x.without(2), 0);
  }

  @Edge(promise = 16, says = "WITHOUT k (0 to 7): that DISTANCE")
  static void withoutSevenOfEightIsTheLeast(Checks c) {
    NearWords x = eight();
    c.due(x.without(6), 1);
    c.due(x.without(7), 0);
    x.part(0, 2);
    x.part(1, 2);
    x.part(2, 2);
    x.part(3, 2);
    x.gap(2);
    // aa alone is two away from bb, cc, dd and bc, and so from all others.
    c.due(x.without(3), 2);
    c.due(x.without(4), 0);
  }

  @Edge(promise = 16, says = "WITHOUT k (0 to 7): that DISTANCE")
  static void withoutMayBeSixtyThree(Checks c) {
    NearWords x = new NearWords();
    x.letters(2);
    for (int w = 0; w < 8; w++) {
      Checks.word(x, "aaaaaaa");
    }
    x.part(7, 2);
    x.cost(0, 1, 9);
    x.gap(63);
    c.due(x.without(0), 63);
    c.due(x.without(6), 63);
    c.due(x.without(7), 0);
  }

  @Edge(promise = 16, says = "0 if there are k NEAR WORDS or less")
  static void withoutAllIsZero(Checks c) {
    NearWords x = barred();
    c.due(x.without(0), 1);
    for (int k = 1; k <= 7; k++) {
      c.due(x.without(k), 0);
    }
    x = Checks.withWords("ab", "cd", "ab");
    x.part(2, 2);
    x.gap(3);
    x.cost(0, 3, 9);
    x.cost(1, 2, 9);
    // Of two NEAR WORDS two are all, one is not: cc is one away from cd, which is too near to the FAR WORD itself.
    c.due(x.without(1), 1);
    c.due(x.without(2), 0);
    c.due(x.without(3), 0);
  }

  @Edge(promise = 16, says = "NONE likewise")
  static void noNearWordNothingWithout(Checks c) {
    for (NearWords x : withoutNearWords()) {
      for (int k = 0; k <= 7; k++) {
        c.none(x.without(k));
      }
    }
  }

  @Edge(promise = 16, says = "NONE likewise")
  static void noCandidateNothingWithout(Checks c) {
    NearWords x = noCandidate();
    for (int k = 0; k <= 7; k++) {
      c.none(x.without(k));
    }
    x.gap(2);
    c.due(x.without(0), 1);
    c.due(x.without(7), 0);
  }

  @Edge(promise = 16, says = "another k")
  static void withoutFewerThanNoneOrMoreThanSevenIsNone(Checks c) {
    NearWords x = eight();
    for (int bad : Checks.outside(0, 7)) {
      c.none(x.without(bad));
    }
    x = Checks.withWords("ab");
    c.none(x.without(8));
    c.due(x.without(7), 0);
    c.none(x.without(-1));
  }

  @Edge(promise = 17, says = "LEFT OUT of it, as bits.")
  static void noneIsLeftOutWithoutNone(Checks c) {
    c.due(eight().leftOut(0), 0);
    c.due(Checks.withWords("ab").leftOut(0), 0);
    c.due(barred().leftOut(0), 0);
  }

  @Edge(promise = 17, says = "LEFT OUT of it, as bits.")
  static void theFirstAndTheLastWordHaveTheirBits(Checks c) {
    NearWords x = Checks.withWords("ddd", "aaa", "aaa", "aaa", "aaa", "aaa", "aaa", "aaa");
    c.due(x.leftOut(1), 1);
    x = Checks.withWords("aaa", "aaa", "aaa", "aaa", "aaa", "aaa", "aaa", "ddd");
    c.due(x.leftOut(1), 128);
  }

  @Edge(promise = 17, says = "LEFT OUT of it, as bits.")
  static void allButOneOfEightAreLeftOut(Checks c) {
    // The first of the WORDS themselves is bb; aa, ahead of it, is 2 from each.
    c.due(eight().leftOut(7), 254);
  }

  @Edge(promise = 17, says = "LEFT OUT of it, as bits.")
  static void withoutAllTheFirstCandidateLeavesOut(Checks c) {
    NearWords x = eight();
    x.part(7, 0);
    c.due(x.without(7), 0);
    c.due(x.leftOut(7), 127);
    c.due(x.leftOut(6), 126);
    c.due(barred().leftOut(1), 1);
    c.due(Checks.withWords("aa", "ab").leftOut(2), 2);
  }

  @Edge(promise = 17, says = "LEFT OUT of it, as bits.")
  static void fewerThanKMayBeLeftOut(Checks c) {
    NearWords x = Checks.withWords("aaa", "aab", "aba", "ddd");
    c.due(x.without(2), 1);
    c.due(x.leftOut(2), 8);
  }

  @Edge(promise = 17, says = "LEFT OUT of it, as bits.")
  static void wordsAsideOrFarAreNotLeftOut(Checks c) {
    NearWords x = Checks.withWords("aaa", "ddd", "ccc", "aaa", "bbb");
    x.part(1, 0);
    x.part(2, 2);
    c.due(x.leftOut(1), 16);
  }

  @Edge(promise = 17, says = "NONE likewise.")
  static void noNearWordNoneLeftOut(Checks c) {
    for (NearWords x : withoutNearWords()) {
      for (int k = 0; k <= 7; k++) {
        c.none(x.leftOut(k));
      }
    }
  }

  @Edge(promise = 17, says = "NONE likewise.")
  static void noCandidateNoneLeftOut(Checks c) {
    NearWords x = noCandidate();
    for (int k = 0; k <= 7; k++) {
      c.none(x.leftOut(k));
    }
    x.gap(2);
    c.due(x.leftOut(0), 0);
  }

  @Edge(promise = 17, says = "NONE likewise.")
  static void noneLeftOutForAnotherK(Checks c) {
    NearWords x = eight();
    for (int bad : Checks.outside(0, 7)) {
      c.none(x.leftOut(bad));
    }
    x = Checks.withWords("ab");
    c.none(x.leftOut(8));
    c.none(x.leftOut(-1));
    c.due(x.leftOut(7), 1);
  }
}
