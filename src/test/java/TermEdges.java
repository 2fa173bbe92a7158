/** The boundary cases that the document's terms name. */
final class TermEdges {
  private TermEdges() {
  }

  private static int apart(String one, String other, int swap, int cost) {
    NearWords x = Checks.withWords(one, other);
    Checks.costAll(x, cost);
    x.swap(swap);
    int there = x.apart(0, 1);
    return there == x.apart(1, 0) ? there : -3;
  }

  private static int edits(String from, String to, int drop, int cost) {
    NearWords x = Checks.withWords(to);
    Checks.costAll(x, cost);
    x.drop(drop);
    Checks.tape(x, from);
    return x.editsFrom(0);
  }

  @Edge(promise = Edge.TERMS, says = "LETTERS are a and on, 2 to 4 of them (4 at first).")
  static void lettersBeginWithA(Checks c) {
    for (int n = 4; n >= 2; n--) {
      NearWords x = new NearWords();
      c.due(x.count(4), 4);
      x.letters(n);
      c.none(Checks.word(x, "`"));
      c.due(Checks.word(x, "a"), 0);
      c.due(Checks.word(x, "" + (char) ('a' + n - 1)), 1);
      c.none(Checks.word(x, "" + (char) ('a' + n)));
      c.due(x.of(0, 1), 0);
      c.due(x.of(1, 1), n - 1);
    }
  }

  @Edge(promise = Edge.TERMS, says = "COST of two unlike LETTERS is 1 to 9 (1 at first), from either side alike.")
  static void aCostIsAlikeFromEitherSide(Checks c) {
    NearWords x = Checks.withWords("a", "d");
    c.due(x.apart(0, 1), 1);
    for (int v = 1; v <= 9; v++) {
      c.yes(x.cost(v % 2 * 3, 3 - v % 2 * 3, v));
      c.due(x.apart(0, 1), v);
      c.due(x.apart(1, 0), v);
    }
    c.no(x.cost(0, 3, 0));
    c.no(x.cost(0, 3, 10));
  }

  @Edge(promise = Edge.TERMS, says = "SWAP is 0 (there is none, at first) or 1 to 9.")
  static void aSwapOfZeroIsNone(Checks c) {
    NearWords x = Checks.withWords("ab", "ba");
    c.due(x.apart(0, 1), 2);
    c.yes(x.swap(1));
    c.due(x.apart(0, 1), 1);
    c.yes(x.swap(0));
    c.due(x.apart(0, 1), 2);
    c.no(x.swap(-1));
    c.yes(x.swap(9));
    c.no(x.swap(10));
  }

  @Edge(promise = Edge.TERMS,
      says = "WORDS, at most 8, numbered as they come, have all one LENGTH (that of the first: 1 to 7).")
  static void theFirstWordTellsTheLength(Checks c) {
    for (int length = 0; length <= 8; length++) {
      NearWords x = new NearWords();
      boolean fits = length >= 1 && length <= 7;
      c.due(Checks.word(x, "a".repeat(length)), fits ? 0 : NearWords.NONE);
      c.due(x.count(5), fits ? length : NearWords.NONE);
      for (int w = 1; w < 8 && fits; w++) {
        c.due(Checks.word(x, "b".repeat(length)), w);
      }
      c.due(Checks.word(x, "b".repeat(9)), NearWords.NONE);
      c.due(x.count(0), fits ? 8 : 0);
    }
  }

  @Edge(promise = Edge.TERMS, says = "Each has a PART: NEAR (at first), FAR, or ASIDE.")
  static void aNewWordIsNear(Checks c) {
    NearWords x = Checks.withWords("a");
    x.part(0, 2);
    Checks.word(x, "b");
    x.part(0, 0);
    Checks.word(x, "c");
    c.due(x.of(0, 0), 0);
    c.due(x.of(1, 0), 1);
    c.due(x.of(2, 0), 1);
  }

  @Edge(promise = Edge.TERMS, says = "GAP is 0 to 63 (0 at first).")
  static void aGapIsZeroToSixtyThree(Checks c) {
    NearWords x = new NearWords();
    c.due(x.count(7), 0);
    c.no(x.gap(-1));
    c.yes(x.gap(63));
    c.no(x.gap(64));
    c.due(x.count(7), 63);
    c.yes(x.gap(0));
  }

  @Edge(promise = Edge.TERMS, says = "TEXTS, at most 5, numbered as they come, have 1 to 24 LETTERS.")
  static void textsHaveOneToTwentyFourLetters(Checks c) {
    NearWords x = new NearWords();
    int[] lengths = {0, 1, 24, 25, 12, 23, 2, 3};
    int[] numbers = {NearWords.NONE, 0, 1, NearWords.NONE, 2, 3, 4, NearWords.NONE};
    for (int i = 0; i < lengths.length; i++) {
      c.due(Checks.text(x, "d".repeat(lengths[i])), numbers[i]);
    }
    c.due(x.count(3), 5);
  }

  @Edge(promise = Edge.TERMS, says = "DISTANCE of two rows of LETTERS of one length: the least sum by which the one becomes "
      + "the other: at each place its LETTER is changed for the other's (COST; 0 for the same)")
  static void eachPlaceIsChangedAtOnce(Checks c) {
    c.due(apart("abcd", "abcd", 0, 9), 0);
    c.due(apart("abcd", "abcc", 0, 9), 9);
    NearWords x = Checks.withWords("a", "b");
    x.cost(0, 1, 9);
    // By way of c it would be 2, but a place is changed for the other's LETTER.
    c.due(x.apart(0, 1), 9);
  }

  @Edge(promise = Edge.TERMS, says = "or, if there is a SWAP, the LETTERS at two places next to one another, "
      + "which are the other's in turned order, are swapped (SWAP)")
  static void neighboursAtEitherEndAreSwapped(Checks c) {
    c.due(apart("abccc", "baccc", 1, 5), 1);
    c.due(apart("cccab", "cccba", 1, 5), 1);
    c.due(apart("abccdcc", "baccdcc", 9, 5), 9);
    c.due(apart("ab", "ba", 9, 5), 9);
    c.due(apart("abab", "baba", 2, 5), 4);
  }

  @Edge(promise = Edge.TERMS, says = "if there is a SWAP")
  static void withoutASwapLettersAreChanged(Checks c) {
    c.due(apart("ab", "ba", 0, 5), 10);
    c.due(apart("abab", "baba", 0, 9), 36);
  }

  @Edge(promise = Edge.TERMS, says = "the least sum by which the one becomes the other")
  static void aSwapThatIsDearerThanTwoChangesIsNotUsed(Checks c) {
    c.due(apart("ab", "ba", 9, 4), 8);
    c.due(apart("ab", "ba", 8, 4), 8);
    c.due(apart("ab", "ba", 7, 4), 7);
    c.due(apart("aa", "aa", 1, 9), 0);
  }

  @Edge(promise = Edge.TERMS, says = "two places next to one another")
  static void placesThatAreNotNeighboursAreNotSwapped(Checks c) {
    c.due(apart("acb", "bca", 1, 5), 10);
    c.due(apart("accb", "bcca", 1, 5), 10);
  }

  @Edge(promise = Edge.TERMS, says = "which are the other's in turned order")
  static void onlyTheOthersLettersInTurnedOrderAreSwapped(Checks c) {
    c.due(apart("ab", "bc", 1, 5), 10);
    c.due(apart("ab", "ca", 1, 5), 10);
    c.due(apart("abc", "bca", 1, 5), 15);
  }

  @Edge(promise = Edge.TERMS, says = "each place in one of these alone.")
  static void aPlaceIsNotSwappedTwice(Checks c) {
    c.due(apart("aba", "bab", 2, 5), 7);
    c.due(apart("baa", "aab", 1, 9), 18);
    c.due(apart("ababa", "babab", 1, 5), 7);
    c.due(apart("abababa", "bababab", 1, 9), 12);
  }

  @Edge(promise = Edge.TERMS, says = "A CANDIDATE is any row of LENGTH LETTERS whose DISTANCE to each FAR WORD is "
      + "GAP or more.")
  static void aCandidateIsGapOrMoreFromEachFarWord(Checks c) {
    NearWords x = Checks.withWords("dd", "aa", "bb");
    x.part(1, 2);
    c.due(x.within(63), 16);
    x.gap(1);
    c.due(x.within(63), 15);
    x.gap(2);
    c.due(x.within(63), 9);
    x.part(2, 2);
    // Neither an a nor a b at any place.
    c.due(x.within(63), 4);
    x.gap(1);
    c.due(x.within(63), 14);
    x.gap(3);
    c.due(x.within(63), 0);
  }

  @Edge(promise = Edge.TERMS, says = "DISTANCE of two rows of LETTERS of one length")
  static void candidatesHaveTheSameDistancesAsTheTape(Checks c) {
    NearWords x = new NearWords();
    x.letters(3);
    x.cost(0, 1, 4);
    x.cost(0, 2, 3);
    x.cost(1, 2, 5);
    x.swap(1);
    Checks.word(x, "abc");
    Checks.word(x, "bab");
    Checks.word(x, "cab");
    x.part(2, 2);
    x.gap(2);
    int[] counts = new int[64];
    int[] letters = new int[64];
    for (int row = 0; row < 27; row++) {
      String s = "" + (char) ('a' + row / 9) + (char) ('a' + row / 3 % 3) + (char) ('a' + row % 3);
      int[] from = new int[3];
      for (int w = 0; w < 3; w++) {
        Checks.tape(x, s);
        from[w] = x.from(w);
      }
      for (int r = Math.max(from[0], from[1]); r < 64 && from[2] >= 2; r++) {
        counts[r]++;
        letters[r] |= 1 << row % 3;
      }
    }
    for (int r = 0; r < 20; r++) {
      c.due(x.within(r), counts[r]);
      c.due(x.lettersAt(r, 2), letters[r]);
    }
  }

  @Edge(promise = Edge.TERMS, says = "if there is a SWAP, the LETTERS at two places next to one another")
  static void swapsAtEitherEndCountForCandidates(Checks c) {
    for (int swap = 1; swap <= 9; swap += 4) {
      for (String[] two : new String[][] {{"aaaaaab", "aaaaaba"}, {"abbbbbb", "babbbbb"}, {"ab", "ba"}}) {
        NearWords x = new NearWords();
        x.letters(2);
        Checks.word(x, two[1]);
        Checks.word(x, two[0]);
        x.cost(0, 1, 9);
        x.swap(swap);
        c.due(x.centre(), swap);
        c.due(x.median(), swap);
        c.due(Checks.medianOf(x), two[0]);
        c.due(x.centres(1), swap);
        c.due(x.without(0), swap);
      }
    }
  }

  @Edge(promise = Edge.TERMS, says = "any row of LENGTH LETTERS")
  static void rowsHaveTheLettersThatCount(Checks c) {
    for (int n = 2; n <= 4; n++) {
      NearWords x = new NearWords();
      x.letters(n);
      Checks.word(x, "aaa");
      c.due(x.within(63), n * n * n);
      c.due(x.lettersAt(63, 2), (1 << n) - 1);
    }
  }

  @Edge(promise = Edge.TERMS, says = "Their order: LETTER by LETTER, a ahead of b.")
  static void theFirstPlaceGoesAheadOfTheOthers(Checks c) {
    // Within 1 of both are adc and bdd.
    NearWords x = Checks.withWords("bdc", "add");
    c.due(x.centre(), 1);
    c.due(x.within(1), 2);
    c.due(Checks.centreOf(x), "adc");
  }

  @Edge(promise = Edge.TERMS, says = "RADIUS of a CANDIDATE: its greatest DISTANCE to a NEAR WORD.")
  static void theGreatestDistanceIsTheRadius(Checks c) {
    NearWords x = Checks.withWords("aaa", "aaa", "bbb", "ccc");
    x.part(3, 0);
    c.due(x.centre(), 2);
    c.due(x.within(2), 6 + 6 * 2);
    c.due(x.within(1), 0);
  }

  @Edge(promise = Edge.TERMS, says = "THE CENTRE: the CANDIDATE of the least RADIUS, of several the first.")
  static void ofSeveralCentresTheFirst(Checks c) {
    NearWords x = Checks.withWords("dd", "cc");
    c.due(x.within(1), 2);
    c.due(Checks.centreOf(x), "cd");
    x.part(0, 2);
    x.part(1, 1);
    x.gap(2);
    c.due(Checks.centreOf(x), "cc");
    x.part(1, 0);
    Checks.word(x, "dd");
    // No d at any place: all are 2 away, and aa is the first of them.
    c.due(x.centre(), 2);
    c.due(Checks.centreOf(x), "aa");
  }

  @Edge(promise = Edge.TERMS, says = "WITHOUT k: the CANDIDATE of which the (k + 1)-th greatest DISTANCE to NEAR WORDS "
      + "is least, of several the first")
  static void ofSeveralWithoutKTheFirst(Checks c) {
    // With one left out each WORD has the second greatest DISTANCE 0; cc is the first, so dd is left out.
    NearWords x = Checks.withWords("dd", "cc");
    c.due(x.without(1), 0);
    c.due(x.leftOut(1), 1);
    x = Checks.withWords("cc", "dd");
    c.due(x.leftOut(1), 2);
    x = Checks.withWords("cc", "cc", "dd", "dd");
    c.due(x.without(1), 1);
    c.due(x.leftOut(1), 0);
    c.due(x.without(2), 0);
    c.due(x.leftOut(2), 12);
  }

  @Edge(promise = Edge.TERMS, says = "LEFT OUT are the NEAR WORDS that are further from it than that.")
  static void justAsFarIsNotLeftOut(Checks c) {
    NearWords x = Checks.withWords("aaaa", "aaab", "aabb", "bbbb");
    // aaab is 1, 0, 1 and 3 away: the second and the third greatest are both 1.
    c.due(x.without(1), 1);
    c.due(x.leftOut(1), 8);
    c.due(x.without(2), 1);
  }

  @Edge(promise = Edge.TERMS, says = "A set of NEAR WORDS is HELD within r, if some CANDIDATE has DISTANCES of r or less "
      + "to all of them.")
  static void aSetIsHeldByOneCandidateForAll(Checks c) {
    NearWords x = Checks.withWords("aa", "bb", "cc");
    // Each two are HELD within 1, but not all three.
    c.due(x.cover(1), 2);
    c.due(x.core(1), 3);
    c.due(x.cover(2), 1);
    c.due(x.core(2), 0);
    c.due(x.cover(0), 3);
  }

  @Edge(promise = Edge.TERMS, says = "A CORE: a set of one WORD or more that isn't HELD")
  static void noWordsAreNoCore(Checks c) {
    NearWords x = Checks.withWords("ab", "ab");
    x.part(1, 2);
    x.gap(3);
    c.due(x.core(63), 1);
    c.due(x.coreSet(63), 1);
  }

  @Edge(promise = Edge.TERMS, says = "with the fewest WORDS, of several the one that is least as bits (bit w: WORD w)")
  static void fewerWordsGoAheadOfLessBits(Checks c) {
    NearWords x = Checks.withWords("aa", "bb", "cc", "dd");
    x.cost(0, 3, 3);
    x.cost(1, 3, 3);
    x.cost(2, 3, 3);
    // aa, bb and cc are a set of three that isn't HELD (7 as bits); of two there are 9, 10 and 12.
    c.due(x.core(1), 2);
    c.due(x.coreSet(1), 9);
    x.part(0, 0);
    c.due(x.coreSet(1), 10);
    x.part(1, 2);
    c.due(x.coreSet(1), 12);
    x.part(0, 1);
    x.part(1, 1);
    x.part(3, 0);
    c.due(x.coreSet(1), 7);
  }

  @Edge(promise = Edge.TERMS, says = "A COVER: the fewest sets that are HELD and together are all NEAR WORDS.")
  static void theFewestSetsAreACover(Checks c) {
    NearWords x = Checks.withWords("abaa", "baaa", "acaa", "aaba", "aaab", "aaac");
    c.due(x.cover(1), 1);
    x = Checks.withWords("baaa", "abaa", "bbaa", "aaba", "aaab", "aabb");
    // The greatest set within 1 is the four around aaaa, but bbaa and aabb would then need one each.
    c.due(x.cover(1), 2);
    c.due(x.centres(2), 1);
    // A WORD ASIDE need not be in any set.
    x.part(5, 0);
    x.part(2, 0);
    c.due(x.cover(1), 1);
  }

  @Edge(promise = Edge.TERMS, says = "EDITS from a row of LETTERS to another one, of any lengths")
  static void editsOfUnlikeLengths(Checks c) {
    c.due(edits("a", "aaaaaaa", 9, 9), 54);
    c.due(edits("aaaaaaaa", "a", 9, 9), 63);
    c.due(edits("aaaaaaaa", "bbbbbbb", 9, 9), 72);
    c.due(edits("aaaaaaaa", "bbbbbbb", 1, 9), 15);
    c.due(edits("b", "a", 9, 9), 9);
  }

  @Edge(promise = Edge.TERMS, says = "the least sum by which the one becomes the other: a LETTER is changed (COST), comes, "
      + "or goes (DROP, 1 to 9, 2 at first)")
  static void aLetterIsChangedOrGoesAndComes(Checks c) {
    c.due(edits("a", "b", 2, 3), 3);
    c.due(edits("a", "b", 2, 4), 4);
    c.due(edits("a", "b", 2, 5), 4);
    c.due(edits("ab", "b", 3, 9), 3);
    c.due(edits("b", "ab", 3, 9), 3);
    NearWords x = Checks.withWords("b");
    x.cost(0, 1, 9);
    x.drop(9);
    Checks.tape(x, "a");
    // By way of c it would be 2.
    c.due(x.editsFrom(0), 9);
  }

  @Edge(promise = Edge.TERMS, says = "one behind the other from the left; no SWAP.")
  static void editsKeepTheOrderAndSwapNothing(Checks c) {
    NearWords x = Checks.withWords("ab", "ba");
    x.cost(0, 1, 9);
    x.drop(9);
    x.swap(1);
    c.due(x.apart(0, 1), 1);
    c.due(x.edits(0, 1), 18);
    x.drop(2);
    c.due(x.edits(0, 1), 4);
    c.due(edits("abcd", "dcba", 1, 9), 6);
  }

  @Edge(promise = Edge.TERMS, says = "THE MIDDLE: the row of 1 to 8 LETTERS (whatever FAR WORDS there are) of the least sum "
      + "of EDITS to NEAR WORDS")
  static void theMiddleIsAnyRowOfOneToEight(Checks c) {
    NearWords x = Checks.withWords("ab", "ab");
    x.part(0, 2);
    x.gap(63);
    c.due(x.middle(), 0);
    c.due(Checks.middleOf(x), "ab");
    x = new NearWords();
    x.letters(2);
    Checks.word(x, "a");
    Checks.word(x, "b");
    x.cost(0, 1, 5);
    x.cost(0, 2, 1);
    x.cost(1, 2, 1);
    x.drop(9);
    // c would be 1 away from both, but is no LETTER here.
    c.due(x.middle(), 5);
    c.due(Checks.middleOf(x), "a");
  }

  @Edge(promise = Edge.TERMS, says = "of several the shortest, then the first.")
  static void ofSeveralMiddlesTheShortestThenTheFirst(Checks c) {
    NearWords x = Checks.withWords("dc", "cd");
    Checks.costAll(x, 9);
    x.drop(1);
    // c, d, cd, dc, cdc and dcd have the sum 2.
    c.due(x.middle(), 2);
    c.due(Checks.middleOf(x), "c");
    x.drop(9);
    Checks.costAll(x, 1);
    c.due(x.middle(), 2);
    c.due(Checks.middleOf(x), "cc");
  }

  @Edge(promise = Edge.TERMS, says = "THE MEDIAN: the CANDIDATE of the least sum of DISTANCES to NEAR WORDS, of several the "
      + "first.")
  static void ofSeveralMediansTheFirst(Checks c) {
    NearWords x = Checks.withWords("dc", "cd");
    c.due(x.median(), 2);
    c.due(x.medians(), 4);
    c.due(Checks.medianOf(x), "cc");
    Checks.word(x, "cc");
    x.part(2, 2);
    x.gap(1);
    c.due(x.median(), 2);
    c.due(x.medians(), 3);
    c.due(Checks.medianOf(x), "cd");
  }

  @Edge(promise = Edge.TERMS, says = "THE MOTIF of m LETTERS (any row of m, whatever FAR WORDS there are)")
  static void theMotifIsAnyRow(Checks c) {
    NearWords x = Checks.withTexts("ab");
    Checks.word(x, "ab");
    x.part(0, 2);
    x.gap(63);
    c.due(x.motif(2), 0);
    c.due(Checks.motifOf(x, 2), "ab");
    // cc lies in neither text, but is nearest to both.
    x = Checks.withTexts("aa", "bb");
    x.cost(0, 1, 9);
    c.due(x.motif(2), 2);
    c.due(Checks.motifOf(x, 2), "cc");
    x = new NearWords();
    x.letters(2);
    Checks.text(x, "aa");
    Checks.text(x, "bb");
    x.cost(0, 1, 9);
    c.due(x.motif(2), 9);
    c.due(Checks.motifOf(x, 2), "ab");
  }

  @Edge(promise = Edge.TERMS, says = "in each TEXT its nearest PIECE is the row of m LETTERS next to one another of the least "
      + "DISTANCE to it, of several the first")
  static void theNearestPieceIsTheFirstOfSeveral(Checks c) {
    NearWords x = Checks.withTexts("ab", "aabb", "bcbacdab");
    c.due(x.motif(2), 0);
    c.due(x.motifIn(2, 1), 1);
    c.due(x.motifIn(2, 2), 6);
    x = Checks.withTexts("aaa", "cccbabcbabccc");
    x.cost(0, 2, 9);
    // The pieces bab at 3 and at 7 are alike.
    c.due(x.motif(3), 1);
    c.due(Checks.motifOf(x, 3), "aab");
    c.due(x.motifIn(3, 1), 3);
  }

  @Edge(promise = Edge.TERMS, says = "in each TEXT its nearest PIECE")
  static void swapsCountForPieces(Checks c) {
    NearWords x = Checks.withTexts("ab", "ccbacc");
    Checks.costAll(x, 9);
    x.swap(2);
    c.due(x.motif(2), 2);
    c.due(Checks.motifOf(x, 2), "ab");
    c.due(x.motifIn(2, 1), 2);
    for (int swap = 1; swap <= 9; swap++) {
      // Each letter of ab is wrong in ba until the two are swapped.
      x = Checks.withTexts("ba", "ab");
      Checks.costAll(x, 9);
      x.swap(swap);
      c.due(x.motif(2), swap);
      c.due(Checks.motifOf(x, 2), swap == 9 ? "aa" : "ab");
      x = Checks.withTexts("cba", "cab");
      Checks.costAll(x, 9);
      x.swap(swap);
      c.due(x.motif(3), swap);
      c.due(Checks.motifOf(x, 3), swap == 9 ? "caa" : "cab");
    }
  }

  @Edge(promise = Edge.TERMS, says = "the one whose greatest DISTANCE to its nearest PIECES is least")
  static void aMotifThatADearSwapDoesNotBar(Checks c) {
    NearWords x = Checks.withTexts("bb", "ba");
    x.swap(9);
    // aa, the first row of all, is 2 away from bb.
    c.due(x.motif(2), 1);
    c.due(Checks.motifOf(x, 2), "ba");
  }

  @Edge(promise = Edge.TERMS, says = "the one whose greatest DISTANCE to its nearest PIECES is least")
  static void aMotifThatOnlyASwapMakesGood(Checks c) {
    for (int swap = 1; swap <= 7; swap++) {
      for (String ahead : new String[] {"", "d", "dd", "dddd"}) {
        NearWords x = Checks.withTexts(ahead + "cb", ahead + "bc");
        Checks.costAll(x, 9);
        x.cost(0, 1, 4);
        x.cost(0, 2, 4);
        x.swap(swap);
        // aa is 8 away from both; the b of bc alone is worse, until it is swapped with the c.
        c.due(x.motif(ahead.length() + 2), swap);
        c.due(Checks.motifOf(x, ahead.length() + 2), ahead + "bc");
        c.due(x.motifIn(ahead.length() + 2, 1), 0);
      }
    }
  }

  @Edge(promise = Edge.TERMS, says = "the one whose greatest DISTANCE to its nearest PIECES is least, of several the first.")
  static void ofSeveralMotifsTheFirst(Checks c) {
    NearWords x = Checks.withTexts("dd", "cc");
    c.due(x.motif(2), 1);
    c.due(Checks.motifOf(x, 2), "cd");
    c.due(x.motif(1), 1);
    c.due(Checks.motifOf(x, 1), "a");
  }

  @Edge(promise = Edge.TERMS, says = "The constants: `NONE = -1`: There is none.")
  static void noneIsMinusOne(Checks c) {
    c.due(NearWords.NONE, -1);
    c.due(new NearWords().centre(), -1);
  }
}
