/** What the document's first lines say of the class as a whole. */
final class AboutEdges {
  private AboutEdges() {
  }

  @Edge(promise = Edge.ABOUT, says = "A room of near words: some words of one length that one word is to be near, "
      + "others that it is to be far from")
  static void oneWordIsNearSomeAndFarFromOthers(Checks c) {
    NearWords x = Checks.withWords("aaa", "abb");
    x.part(1, 2);
    x.gap(2);
    c.due(x.centre(), 0);
    c.due(Checks.centreOf(x), "aaa");
    x.gap(3);
    // Now no place may be as in abb.
    c.due(x.centre(), 1);
    c.due(Checks.centreOf(x), "baa");
    c.none(Checks.word(x, "aaaa"));
  }

  @Edge(promise = Edge.ABOUT, says = "letters that cost unlike to change, neighbours that may be swapped")
  static void lettersCostUnlikeAndNeighboursAreSwapped(Checks c) {
    NearWords x = Checks.withWords("abc", "bac", "abd");
    x.cost(0, 1, 4);
    x.cost(2, 3, 9);
    c.due(x.apart(0, 1), 8);
    c.due(x.apart(0, 2), 9);
    c.due(x.apart(1, 2), 17);
    x.swap(3);
    c.due(x.apart(0, 1), 3);
    c.due(x.apart(0, 2), 9);
    c.due(x.apart(1, 2), 12);
  }

  @Edge(promise = Edge.ABOUT, says = "the nearest word to all, to all but a few, how many there are within a distance "
      + "and which letters they have")
  static void theNearestWordToAllAndToAllButAFew(Checks c) {
    NearWords x = Checks.withWords("aaaa", "aaab", "aaba", "dddd");
    c.due(x.centre(), 2);
    c.due(Checks.centreOf(x), "aadd");
    c.due(x.within(2), 1);
    c.due(x.lettersAt(2, 1), 1);
    c.due(x.lettersAt(2, 2), 8);
    c.due(x.within(1), 0);
    c.due(x.without(1), 1);
    c.due(x.leftOut(1), 8);
  }

  @Edge(promise = Edge.ABOUT, says = "the few that together bar a near word, the fewest near words for all")
  static void aFewBarANearWordAndAFewAreNearToAll(Checks c) {
    NearWords x = Checks.withWords("aaaa", "aaab", "aaba", "dddd");
    c.due(x.core(1), 2);
    c.due(x.coreSet(1), 9);
    c.due(x.cover(1), 2);
    int[] least = {2, 1, 1, 0, 0};
    for (int k = 1; k <= 5; k++) {
      c.due(x.centres(k), least[k - 1]);
    }
  }

  @Edge(promise = Edge.ABOUT, says = "words of the least sum, also where letters may come and go")
  static void theLeastSumWithAndWithoutLettersThatComeAndGo(Checks c) {
    NearWords x = Checks.withWords("abcd", "bcda", "bcdb");
    c.due(x.median(), 5);
    c.due(Checks.medianOf(x), "bcda");
    c.due(x.medians(), 3);
    x.drop(1);
    c.due(x.middle(), 3);
    c.due(Checks.middleOf(x), "bcd");
  }

  @Edge(promise = Edge.ABOUT, says = "and a word that lies nearly in each of some longer texts.")
  static void aWordLiesNearlyInEachText(Checks c) {
    NearWords x = Checks.withTexts("abcd", "dcba");
    c.due(x.motif(3), 1);
    c.due(Checks.motifOf(x, 3), "aba");
    c.due(x.motifIn(3, 0), 0);
    c.due(x.motifIn(3, 1), 1);
  }

  @Edge(promise = Edge.ABOUT, says = "An object is used for at most 512 calls after it has been made; what later calls "
      + "answer is free.")
  static void allOfFiveHundredAndTwelveCallsAreAnswered(Checks c) {
    NearWords x = new NearWords();
    x.letters(2);
    Checks.word(x, "ab");
    Checks.word(x, "ba");
    // Seven calls have been made, and each round makes five.
    for (int round = 0; round < 101; round++) {
      int v = 1 + round % 9;
      c.yes(x.cost(0, 1, v));
      c.due(x.middle(), v == 1 ? 2 : 4);
      c.due(x.centre(), v);
      c.due(x.median(), 2 * v);
      c.due(x.apart(0, 1), 2 * v);
    }
  }

  @Edge(promise = Edge.ABOUT, says = "An object is used")
  static void anObjectHasAStateOfItsOwn(Checks c) {
    NearWords x = Checks.withWords("aaa", "abb");
    NearWords y = new NearWords();
    String before = Checks.stateOf(y);
    x.cost(0, 1, 7);
    x.drop(5);
    x.gap(3);
    x.swap(2);
    Checks.text(x, "abab");
    Checks.tape(x, "ab");
    c.due(Checks.stateOf(y), before);
    c.due(y.count(8), 0);
    Checks.word(y, "ba");
    Checks.word(y, "ab");
    // Since a for b is dear, c stands between them.
    c.due(x.centre(), 2);
    c.due(y.centre(), 1);
    c.due(y.apart(0, 1), 2);
    c.due(y.middle(), 2);
    c.due(Checks.centreOf(x), "acc");
    c.due(Checks.centreOf(y), "aa");
    c.none(y.motif(1));
    c.due(x.motif(2), 0);
  }
}
