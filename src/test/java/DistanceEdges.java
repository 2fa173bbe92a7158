/** The boundary cases of promises 12, 13, 24 and 25: DISTANCES and EDITS of two rows. */
final class DistanceEdges {
  private DistanceEdges() {
  }

  private static int from(NearWords x, String row, int word) {
    Checks.tape(x, row);
    return x.from(word);
  }

  private static int editsFrom(NearWords x, String row, int word) {
    Checks.tape(x, row);
    return x.editsFrom(word);
  }

  @Edge(promise = 12, says = "The DISTANCE of two WORDS.")
  static void theGreatestDistanceIsSixtyThree(Checks c) {
    NearWords x = Checks.withWords("aaaaaaa", "bbbbbbb");
    x.cost(0, 1, 9);
    c.due(x.apart(0, 1), 63);
    c.due(x.apart(1, 0), 63);
  }

  @Edge(promise = 12, says = "The DISTANCE of two WORDS.")
  static void theLeastDistanceIsZero(Checks c) {
    NearWords x = Checks.withWords("abcd", "abcd");
    x.swap(1);
    c.due(x.apart(0, 1), 0);
    c.due(x.apart(1, 1), 0);
  }

  @Edge(promise = 12, says = "The DISTANCE of two WORDS.")
  static void wordsOfOneLetterHaveADistance(Checks c) {
    NearWords x = Checks.withWords("a", "d");
    x.swap(1);
    x.cost(0, 3, 9);
    c.due(x.apart(0, 1), 9);
  }

  @Edge(promise = 12, says = "two WORDS")
  static void wordsOfAnyPartHaveADistance(Checks c) {
    NearWords x = Checks.withWords("aab", "abb", "bbb");
    x.part(0, 0);
    x.part(1, 2);
    x.gap(63);
    c.due(x.apart(0, 1), 1);
    c.due(x.apart(1, 2), 1);
    c.due(x.apart(2, 0), 2);
  }

  @Edge(promise = 12, says = "two WORDS")
  static void theEighthWordHasADistance(Checks c) {
    NearWords x = Checks.withWords("aa", "aa", "aa", "aa", "aa", "aa", "aa", "bc");
    c.due(x.apart(7, 0), 2);
    c.due(x.apart(6, 7), 2);
  }

  @Edge(promise = 12, says = "NONE: no such ones.")
  static void wordsThatAreNotThereHaveNoDistance(Checks c) {
    NearWords x = new NearWords();
    c.none(x.apart(0, 0));
    for (int size = 1; size <= 8; size++) {
      Checks.word(x, "ab");
      for (int bad : Checks.outside(0, size - 1)) {
        c.none(x.apart(bad, 0));
        c.none(x.apart(size - 1, bad));
        c.none(x.apart(bad, bad));
      }
    }
  }

  @Edge(promise = 13, says = "The DISTANCE of the TAPE")
  static void anyRowOfLengthLettersHasADistance(Checks c) {
    NearWords x = Checks.withWords("aaaaaaa", "abcdabc");
    x.cost(0, 1, 9);
    c.due(from(x, "bbbbbbb", 0), 63);
    c.due(from(x, "abcdabc", 1), 0);
    x = Checks.withWords("a");
    c.due(from(x, "d", 0), 1);
  }

  @Edge(promise = 13, says = "to a WORD.")
  static void toAWordOfAnyPart(Checks c) {
    NearWords x = Checks.withWords("aa", "bb", "cc");
    x.part(0, 0);
    x.part(1, 2);
    x.gap(63);
    c.due(from(x, "ab", 0), 1);
    c.due(from(x, "ab", 1), 1);
    c.due(from(x, "ab", 2), 2);
  }

  @Edge(promise = 13, says = "(empty then, in any case)")
  static void theTapeIsEmptyWhateverFromAnswers(Checks c) {
    NearWords x = new NearWords();
    from(x, "abc", 0);
    c.due(x.count(8), 0);
    Checks.word(x, "abc");
    for (String row : new String[] {"abc", "abe", "ab", "abcd", "a".repeat(40)}) {
      for (int w : new int[] {0, 1, -1}) {
        from(x, row, w);
        c.due(x.count(8), 0);
        c.none(x.end(1));
      }
    }
  }

  @Edge(promise = 13, says = "NONE: it isn't LENGTH LETTERS")
  static void aTapeOfAnotherLengthHasNoDistance(Checks c) {
    for (int length = 1; length <= 7; length++) {
      NearWords x = Checks.withWords("a".repeat(length));
      for (int other = 0; other <= 25; other++) {
        c.due(from(x, "a".repeat(other), 0), other == length ? 0 : NearWords.NONE);
      }
    }
  }

  @Edge(promise = 13, says = "it isn't LENGTH LETTERS")
  static void aTapeOfOtherBytesHasNoDistance(Checks c) {
    NearWords x = Checks.withWords("abc");
    for (int place = 0; place < 3; place++) {
      for (char sign : new char[] {'`', 'e', 'A', ' ', 0, 255}) {
        StringBuilder row = new StringBuilder("abc");
        row.setCharAt(place, sign);
        c.none(from(x, row.toString(), 0));
      }
    }
    x = new NearWords();
    x.letters(2);
    Checks.word(x, "ab");
    c.none(from(x, "ac", 0));
    c.due(from(x, "aa", 0), 1);
  }

  @Edge(promise = 13, says = "no such WORD")
  static void noWordNoDistanceFromTheTape(Checks c) {
    NearWords x = new NearWords();
    c.none(x.from(0));
    c.none(from(x, "a", 0));
    for (int size = 1; size <= 8; size++) {
      Checks.word(x, "ab");
      c.due(from(x, "ab", size - 1), 0);
      for (int bad : Checks.outside(0, size - 1)) {
        c.none(from(x, "ab", bad));
      }
    }
  }

  @Edge(promise = 24, says = "EDITS from a WORD to another one.")
  static void theMostAndTheFewestEdits(Checks c) {
    NearWords x = Checks.withWords("aaaaaaa", "bbbbbbb", "aaaaaaa");
    x.cost(0, 1, 9);
    x.drop(9);
    c.due(x.edits(0, 1), 63);
    x.drop(1);
    c.due(x.edits(0, 1), 14);
    c.due(x.edits(1, 0), 14);
    c.due(x.edits(0, 2), 0);
    c.due(x.edits(1, 1), 0);
  }

  @Edge(promise = 24, says = "EDITS from a WORD to another one.")
  static void editsOfOneLetter(Checks c) {
    NearWords x = Checks.withWords("a", "b");
    x.cost(0, 1, 9);
    x.drop(4);
    c.due(x.edits(0, 1), 8);
    x.drop(5);
    c.due(x.edits(0, 1), 9);
  }

  @Edge(promise = 24, says = "from a WORD to another one")
  static void editsOfWordsOfAnyPart(Checks c) {
    NearWords x = Checks.withWords("aab", "abb", "aaa", "aab", "aab", "aab", "aab", "ccc");
    x.part(0, 0);
    x.part(1, 2);
    x.gap(63);
    c.due(x.edits(0, 1), 1);
    c.due(x.edits(1, 2), 2);
    c.due(x.edits(7, 0), 3);
  }

  @Edge(promise = 24, says = "NONE: no such ones.")
  static void wordsThatAreNotThereHaveNoEdits(Checks c) {
    NearWords x = new NearWords();
    c.none(x.edits(0, 0));
    for (int size = 1; size <= 8; size++) {
      Checks.word(x, "ab");
      for (int bad : Checks.outside(0, size - 1)) {
        c.none(x.edits(bad, 0));
        c.none(x.edits(size - 1, bad));
        c.none(x.edits(bad, bad));
      }
    }
  }

  @Edge(promise = 25, says = "EDITS from the TAPE (empty then, in any case; 1 to 8 LETTERS) to a WORD.")
  static void editsFromOneToEightLetters(Checks c) {
    NearWords x = Checks.withWords("abcdabc");
    int[] want = {12, 10, 8, 6, 4, 2, 0, 2};
    for (int length = 1; length <= 8; length++) {
      c.due(editsFrom(x, "abcdabcd".substring(0, length), 0), want[length - 1]);
    }
    x = Checks.withWords("d");
    c.due(editsFrom(x, "a", 0), 1);
    c.due(editsFrom(x, "aaaaaaaa", 0), 15);
    c.due(editsFrom(x, "daaaaaaa", 0), 14);
  }

  @Edge(promise = 25, says = "to a WORD.")
  static void editsToAWordOfAnyPart(Checks c) {
    NearWords x = Checks.withWords("aa", "bb", "cc", "aa", "aa", "aa", "aa", "dd");
    x.part(0, 0);
    x.part(1, 2);
    x.gap(63);
    c.due(editsFrom(x, "a", 0), 2);
    c.due(editsFrom(x, "a", 1), 3);
    c.due(editsFrom(x, "ddd", 7), 2);
  }

  @Edge(promise = 25, says = "(empty then, in any case; 1 to 8 LETTERS)")
  static void theTapeIsEmptyWhateverEditsFromAnswers(Checks c) {
    NearWords x = new NearWords();
    editsFrom(x, "abc", 0);
    c.due(x.count(8), 0);
    Checks.word(x, "abc");
    for (String row : new String[] {"abc", "abe", "a", "abcdabcd", "abcdabcda", "a".repeat(40)}) {
      for (int w : new int[] {0, 1, -1}) {
        editsFrom(x, row, w);
        c.due(x.count(8), 0);
        c.none(x.end(1));
      }
    }
  }

  @Edge(promise = 25, says = "NONE: it isn't that")
  static void noEditsFromAnEmptyTape(Checks c) {
    NearWords x = Checks.withWords("a");
    c.none(x.editsFrom(0));
  }

  @Edge(promise = 25, says = "it isn't that")
  static void noEditsFromMoreThanEightLetters(Checks c) {
    NearWords x = Checks.withWords("aaaaaaa");
    for (int length = 9; length <= 40; length++) {
      c.none(editsFrom(x, "a".repeat(length), 0));
    }
  }

  @Edge(promise = 25, says = "it isn't that")
  static void noEditsFromOtherBytes(Checks c) {
    NearWords x = Checks.withWords("abc");
    for (int place = 0; place < 8; place++) {
      for (char sign : new char[] {'`', 'e', 'A', ' ', 0, 255}) {
        StringBuilder row = new StringBuilder("abcdabcd");
        row.setCharAt(place, sign);
        c.none(editsFrom(x, row.toString(), 0));
      }
    }
    x = new NearWords();
    x.letters(3);
    Checks.word(x, "abc");
    c.none(editsFrom(x, "d", 0));
    c.due(editsFrom(x, "c", 0), 4);
  }

  @Edge(promise = 25, says = "no such WORD")
  static void noWordNoEditsFromTheTape(Checks c) {
    NearWords x = new NearWords();
    c.none(editsFrom(x, "a", 0));
    for (int size = 1; size <= 8; size++) {
      Checks.word(x, "ab");
      c.due(editsFrom(x, "a", size - 1), 2);
      for (int bad : Checks.outside(0, size - 1)) {
        c.none(editsFrom(x, "ab", bad));
      }
    }
  }
}
