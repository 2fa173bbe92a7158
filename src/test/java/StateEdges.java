/** The boundary cases of promises 35 and 36: what a WORD and the room are made of. */
final class StateEdges {
  private StateEdges() {
  }

  @Edge(promise = 35, says = "Of a WORD what 0 its PART")
  static void aWordTellsItsPart(Checks c) {
    NearWords x = Checks.withWords("dd", "dd", "dd", "dd", "dd", "dd", "dd", "dd");
    for (int part = 2; part >= 0; part--) {
      x.part(0, part);
      x.part(7, part);
      c.due(x.of(0, 0), part);
      c.due(x.of(7, 0), part);
      c.due(x.of(3, 0), 1);
    }
  }

  @Edge(promise = 35, says = "1 and i LETTER i.")
  static void aWordTellsItsFirstAndItsLastLetter(Checks c) {
    NearWords x = Checks.withWords("abcddcb", "dcbaabc");
    int[] want = {0, 1, 2, 3, 3, 2, 1};
    for (int i = 0; i < 7; i++) {
      c.due(x.of(0, 1 + i), want[i]);
      c.due(x.of(1, 1 + i), 3 - want[i]);
    }
    c.due(Checks.withWords("c").of(0, 1), 2);
  }

  @Edge(promise = 35, says = "NONE for others.")
  static void aWordTellsNothingElse(Checks c) {
    for (int length = 1; length <= 7; length++) {
      NearWords x = Checks.withWords("b".repeat(length), "c".repeat(length));
      c.due(x.of(0, length), 1);
      for (int bad : Checks.outside(0, length)) {
        c.none(x.of(0, bad));
        c.none(x.of(1, bad));
      }
    }
  }

  @Edge(promise = 35, says = "NONE for others.")
  static void wordsThatAreNotThereTellNothing(Checks c) {
    NearWords x = new NearWords();
    c.none(x.of(0, 0));
    c.none(x.of(0, 1));
    for (int size = 1; size <= 8; size++) {
      Checks.word(x, "bb");
      c.due(x.of(size - 1, 2), 1);
      for (int bad : Checks.outside(0, size - 1)) {
        c.none(x.of(bad, 0));
        c.none(x.of(bad, 1));
      }
    }
  }

  @Edge(promise = 36, says = "what 0 WORDS")
  static void wordsAreCountedFromNoneToEight(Checks c) {
    NearWords x = new NearWords();
    for (int size = 0; size <= 8; size++) {
      c.due(x.count(0), size);
      Checks.word(x, "ab");
    }
    c.due(x.count(0), 8);
    x.part(0, 0);
    c.due(x.count(0), 8);
  }

  @Edge(promise = 36, says = "1 NEAR ones, 2 FAR ones")
  static void nearAndFarWordsAreCounted(Checks c) {
    NearWords x = Checks.withWords("a", "a", "a", "a", "a", "a", "a", "a");
    c.due(x.count(1), 8);
    c.due(x.count(2), 0);
    for (int w = 0; w < 8; w++) {
      x.part(w, 2);
      c.due(x.count(1), 7 - w);
      c.due(x.count(2), 1 + w);
    }
    x.part(7, 0);
    c.due(x.count(1), 0);
    c.due(x.count(2), 7);
  }

  @Edge(promise = 36, says = "3 TEXTS")
  static void textsAreCountedFromNoneToFive(Checks c) {
    NearWords x = new NearWords();
    for (int size = 0; size <= 5; size++) {
      c.due(x.count(3), size);
      Checks.text(x, "ab");
    }
    c.due(x.count(3), 5);
  }

  @Edge(promise = 36, says = "4 LETTERS")
  static void lettersAreCounted(Checks c) {
    NearWords x = new NearWords();
    c.due(x.count(4), 4);
    for (int n = 2; n <= 4; n++) {
      x.letters(n);
      c.due(x.count(4), n);
    }
  }

  @Edge(promise = 36, says = "5 LENGTH (NONE without WORDS)")
  static void withoutWordsThereIsNoLength(Checks c) {
    NearWords x = Checks.withTexts("abc");
    c.none(x.count(5));
    Checks.word(x, "abe");
    c.none(x.count(5));
    for (int length = 1; length <= 7; length++) {
      x = Checks.withWords("a".repeat(length));
      c.due(x.count(5), length);
      x.part(0, 0);
      c.due(x.count(5), length);
    }
  }

  @Edge(promise = 36, says = "6 SWAP, 7 GAP")
  static void swapAndGapAreTold(Checks c) {
    NearWords x = new NearWords();
    x.swap(9);
    x.gap(63);
    c.due(x.count(6), 9);
    c.due(x.count(7), 63);
    x.swap(0);
    x.gap(0);
    c.due(x.count(6), 0);
    c.due(x.count(7), 0);
  }

  @Edge(promise = 36, says = "8 bytes of the TAPE")
  static void bytesOfTheTapeAreCounted(Checks c) {
    NearWords x = new NearWords();
    c.due(x.count(8), 0);
    x.feed(0, 0, 0, 0, 0);
    c.due(x.count(8), 20);
    x.feed(0, 0, 0, 0, 0);
    c.due(x.count(8), 40);
    x.end(39);
    c.due(x.count(8), 39);
    x.end(0);
    c.due(x.count(8), 0);
  }

  @Edge(promise = 36, says = "9 DROP")
  static void dropIsTold(Checks c) {
    NearWords x = new NearWords();
    c.due(x.count(9), 2);
    x.drop(9);
    c.due(x.count(9), 9);
    x.drop(1);
    c.due(x.count(9), 1);
  }

  @Edge(promise = 36, says = "10 and t the length of TEXT t.")
  static void lengthsOfTextsAreTold(Checks c) {
    int[] lengths = {1, 24, 7, 2, 23};
    NearWords x = new NearWords();
    for (int t = 0; t < 5; t++) {
      c.none(x.count(10 + t));
      Checks.text(x, "a".repeat(lengths[t]));
      c.due(x.count(10 + t), lengths[t]);
      c.none(x.count(11 + t));
    }
    c.due(x.count(10), 1);
  }

  @Edge(promise = 36, says = "NONE for others.")
  static void nothingElseIsTold(Checks c) {
    NearWords x = Checks.withTexts("a", "aa", "aaa", "aaaa", "aaaaa");
    Checks.word(x, "ab");
    for (int bad : Checks.outside(0, 14)) {
      c.none(x.count(bad));
    }
    for (int wrapped = 0; wrapped < 15; wrapped++) {
      c.none(x.count(Integer.MIN_VALUE + wrapped));
    }
  }
}
