/** The boundary cases of promises 1 to 6: a new object, and what is set ahead of the questions. */
final class RuleEdges {
  private RuleEdges() {
  }

  /** A room in which the DISTANCE of WORDS a and b is the COST of LETTERS a and b. */
  private static NearWords fourLetters() {
    return Checks.withWords("a", "b", "c", "d");
  }

  private static String costs(NearWords x) {
    StringBuilder s = new StringBuilder();
    for (int a = 0; a < 4; a++) {
      for (int b = 0; b < 4; b++) {
        s.append(x.apart(a, b));
      }
    }
    return s.toString();
  }

  @Edge(promise = 1, says = "No WORDS")
  static void aNewObjectHasNoWords(Checks c) {
    NearWords x = new NearWords();
    c.due(x.count(0), 0);
    c.due(x.count(1), 0);
    c.due(x.count(2), 0);
    c.none(x.count(5));
    c.none(x.of(0, 0));
    c.none(x.apart(0, 0));
  }

  @Edge(promise = 1, says = "TEXTS")
  static void aNewObjectHasNoTexts(Checks c) {
    NearWords x = new NearWords();
    c.due(x.count(3), 0);
    c.none(x.count(10));
    c.none(x.motif(1));
  }

  @Edge(promise = 1, says = "four LETTERS")
  static void aNewObjectHasFourLetters(Checks c) {
    NearWords x = new NearWords();
    c.due(x.count(4), 4);
    c.none(Checks.word(x, "e"));
    c.due(Checks.word(x, "d"), 0);
    c.due(x.within(63), 4);
  }

  @Edge(promise = 1, says = "each COST 1")
  static void aNewObjectHasEachCostOne(Checks c) {
    c.due(costs(fourLetters()), "0111" + "1011" + "1101" + "1110");
  }

  @Edge(promise = 1, says = "DROP 2")
  static void aNewObjectHasDropTwo(Checks c) {
    NearWords x = Checks.withWords("aa");
    c.due(x.count(9), 2);
    Checks.tape(x, "a");
    c.due(x.editsFrom(0), 2);
  }

  @Edge(promise = 1, says = "no SWAP")
  static void aNewObjectHasNoSwap(Checks c) {
    NearWords x = Checks.withWords("ab", "ba");
    c.due(x.count(6), 0);
    x.cost(0, 1, 9);
    c.due(x.apart(0, 1), 18);
  }

  @Edge(promise = 1, says = "GAP 0")
  static void aNewObjectHasGapZero(Checks c) {
    NearWords x = Checks.withWords("b", "b");
    c.due(x.count(7), 0);
    x.part(1, 2);
    c.due(x.centre(), 0);
  }

  @Edge(promise = 1, says = "an empty TAPE")
  static void aNewObjectHasAnEmptyTape(Checks c) {
    NearWords x = new NearWords();
    c.due(x.count(8), 0);
    c.none(x.end(1));
    c.none(x.word());
    c.none(x.text());
  }

  @Edge(promise = 2, says = "So many LETTERS (2 to 4).")
  static void twoLettersAreTheFewest(Checks c) {
    NearWords x = new NearWords();
    c.yes(x.letters(2));
    c.due(x.count(4), 2);
    c.none(Checks.word(x, "c"));
    c.none(Checks.text(x, "c"));
    c.due(Checks.word(x, "b"), 0);
    c.due(x.within(63), 2);
  }

  @Edge(promise = 2, says = "So many LETTERS (2 to 4).")
  static void threeLettersAreBetween(Checks c) {
    NearWords x = new NearWords();
    c.yes(x.letters(3));
    c.due(x.count(4), 3);
    c.none(Checks.word(x, "d"));
    c.due(Checks.word(x, "c"), 0);
    c.due(x.within(63), 3);
  }

  @Edge(promise = 2, says = "So many LETTERS (2 to 4).")
  static void fourLettersAreTheMost(Checks c) {
    NearWords x = new NearWords();
    x.letters(2);
    c.yes(x.letters(4));
    c.due(x.count(4), 4);
    c.none(Checks.word(x, "e"));
    c.due(Checks.word(x, "d"), 0);
    c.due(x.within(63), 4);
  }

  @Edge(promise = 2, says = "False: another n")
  static void fewerThanTwoOrMoreThanFourLettersAreRefused(Checks c) {
    NearWords x = new NearWords();
    for (int n : Checks.outside(2, 4)) {
      c.no(x.letters(n));
      c.due(x.count(4), 4);
    }
    x.letters(3);
    c.no(x.letters(1));
    c.no(x.letters(5));
    c.due(x.count(4), 3);
  }

  @Edge(promise = 2, says = "there are WORDS")
  static void lettersStayOnceThereIsAWord(Checks c) {
    NearWords x = new NearWords();
    x.letters(3);
    Checks.word(x, "a");
    for (int n = 2; n <= 4; n++) {
      c.no(x.letters(n));
    }
    x.part(0, 0);
    c.no(x.letters(4));
    c.due(x.count(4), 3);
    c.none(Checks.word(x, "d"));
  }

  @Edge(promise = 2, says = "or TEXTS")
  static void lettersStayOnceThereIsAText(Checks c) {
    NearWords x = new NearWords();
    x.letters(3);
    Checks.text(x, "a");
    for (int n = 2; n <= 4; n++) {
      c.no(x.letters(n));
    }
    c.due(x.count(4), 3);
    c.none(Checks.text(x, "d"));
  }

  @Edge(promise = 2, says = "there are WORDS or TEXTS")
  static void lettersDoNotStayForWhatWasRefusedOrForATape(Checks c) {
    NearWords x = new NearWords();
    Checks.word(x, "e");
    Checks.text(x, "");
    Checks.tape(x, "dd");
    c.yes(x.letters(2));
    c.due(x.count(8), 2);
    c.none(x.word());
  }

  @Edge(promise = 3, says = "The COST of two LETTERS (0 is a).")
  static void eachTwoLettersHaveACostOfTheirOwn(Checks c) {
    NearWords x = fourLetters();
    c.yes(x.cost(0, 1, 2));
    c.yes(x.cost(2, 0, 3));
    c.yes(x.cost(0, 3, 4));
    c.yes(x.cost(2, 1, 5));
    c.yes(x.cost(1, 3, 6));
    c.yes(x.cost(3, 2, 7));
    c.due(costs(x), "0234" + "2056" + "3507" + "4670");
  }

  @Edge(promise = 3, says = "no such two (of all four)")
  static void lettersThatAreNoneOfFourHaveNoCost(Checks c) {
    NearWords x = fourLetters();
    for (int bad : Checks.outside(0, 3)) {
      for (int good = 0; good < 4; good++) {
        c.no(x.cost(bad, good, 5));
        c.no(x.cost(good, bad, 5));
      }
      c.no(x.cost(bad, bad - 1, 5));
    }
    c.due(costs(x), "0111" + "1011" + "1101" + "1110");
  }

  @Edge(promise = 3, says = "(of all four)")
  static void allFourHaveCostsWhereFewerAreLetters(Checks c) {
    NearWords x = new NearWords();
    x.letters(2);
    c.yes(x.cost(2, 3, 5));
    c.yes(x.cost(3, 0, 6));
    x.letters(4);
    for (String s : new String[] {"a", "b", "c", "d"}) {
      Checks.word(x, s);
    }
    c.due(costs(x), "0116" + "1011" + "1105" + "6150");
  }

  @Edge(promise = 3, says = "alike")
  static void alikeLettersHaveNoCost(Checks c) {
    NearWords x = fourLetters();
    for (int a = 0; a < 4; a++) {
      c.no(x.cost(a, a, 1));
      c.no(x.cost(a, a, 0));
      c.no(x.cost(a, a, 9));
    }
    c.due(costs(x), "0111" + "1011" + "1101" + "1110");
  }

  @Edge(promise = 3, says = "False: no such two (of all four), alike, another COST.")
  static void costsAreOneToNine(Checks c) {
    NearWords x = fourLetters();
    for (int v = 9; v >= 1; v--) {
      c.yes(x.cost(3, 1, v));
      c.due(x.apart(1, 3), v);
      c.due(x.apart(3, 1), v);
    }
  }

  @Edge(promise = 3, says = "another COST")
  static void costsBelowOneOrAboveNineAreRefused(Checks c) {
    NearWords x = fourLetters();
    x.cost(0, 1, 4);
    for (int v : Checks.outside(1, 9)) {
      c.no(x.cost(0, 1, v));
      c.no(x.cost(1, 0, v));
      c.due(x.apart(0, 1), 4);
    }
  }

  @Edge(promise = 4, says = "SWAP is that.")
  static void swapsAreZeroToNine(Checks c) {
    NearWords x = Checks.withWords("ab", "ba");
    x.cost(0, 1, 5);
    for (int v = 9; v >= 1; v--) {
      c.yes(x.swap(v));
      c.due(x.count(6), v);
      c.due(x.apart(0, 1), v);
    }
    c.yes(x.swap(0));
    c.due(x.count(6), 0);
    c.due(x.apart(0, 1), 10);
  }

  @Edge(promise = 4, says = "False: not 0 to 9.")
  static void swapsBelowZeroOrAboveNineAreRefused(Checks c) {
    NearWords x = Checks.withWords("ab", "ba");
    x.cost(0, 1, 5);
    x.swap(7);
    for (int v : Checks.outside(0, 9)) {
      c.no(x.swap(v));
      c.due(x.count(6), 7);
      c.due(x.apart(0, 1), 7);
    }
  }

  @Edge(promise = 5, says = "DROP is that.")
  static void dropsAreOneToNine(Checks c) {
    NearWords x = Checks.withWords("aa");
    for (int v = 9; v >= 1; v--) {
      c.yes(x.drop(v));
      c.due(x.count(9), v);
      Checks.tape(x, "a");
      c.due(x.editsFrom(0), v);
    }
  }

  @Edge(promise = 5, says = "False: not 1 to 9.")
  static void dropsBelowOneOrAboveNineAreRefused(Checks c) {
    NearWords x = Checks.withWords("aa");
    x.drop(5);
    for (int v : Checks.outside(1, 9)) {
      c.no(x.drop(v));
      c.due(x.count(9), 5);
    }
    Checks.tape(x, "a");
    c.due(x.editsFrom(0), 5);
  }

  @Edge(promise = 6, says = "GAP is that.")
  static void gapsAreZeroToSixtyThree(Checks c) {
    NearWords x = new NearWords();
    for (int v = 63; v >= 0; v--) {
      c.yes(x.gap(v));
      c.due(x.count(7), v);
    }
  }

  @Edge(promise = 6, says = "GAP is that.")
  static void theGreatestGapStillHasCandidates(Checks c) {
    NearWords x = Checks.withWords("aaaaaaa", "aaaaaaa");
    x.part(1, 2);
    Checks.costAll(x, 9);
    x.gap(63);
    c.due(x.centre(), 63);
    c.due(x.within(63), 2187);
  }

  @Edge(promise = 6, says = "False: not 0 to 63.")
  static void gapsBelowZeroOrAboveSixtyThreeAreRefused(Checks c) {
    NearWords x = Checks.withWords("a", "b");
    x.part(1, 2);
    x.gap(1);
    for (int v : Checks.outside(0, 63)) {
      c.no(x.gap(v));
      c.due(x.count(7), 1);
      c.due(x.within(63), 3);
    }
  }
}
