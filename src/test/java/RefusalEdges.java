import java.util.NoSuchElementException;

/** What is refused changes nothing: each answer of a well filled room is the same as before. */
final class RefusalEdges {
  private RefusalEdges() {
  }

  private static NearWords wellFilled() {
    NearWords x = Checks.withWords("abcd", "bcda", "aacc", "dbca");
    Checks.text(x, "abcdab");
    Checks.text(x, "ddcba");
    x.cost(0, 1, 2);
    x.cost(2, 3, 4);
    x.swap(3);
    x.drop(3);
    x.part(2, 2);
    x.gap(2);
    Checks.tape(x, "dcba");
    return x;
  }

  private static String answers(NearWords x) {
    StringBuilder s = new StringBuilder(Checks.stateOf(x));
    s.append(' ').append(x.count(8));
    for (int a = 0; a < x.count(0); a++) {
      for (int b = 0; b < x.count(0); b++) {
        s.append(' ').append(x.apart(a, b)).append(' ').append(x.edits(a, b));
      }
    }
    s.append(' ').append(x.centre()).append(Checks.centreOf(x)).append(' ').append(x.median()).append(Checks.medianOf(x));
    s.append(' ').append(x.middle()).append(Checks.middleOf(x)).append(' ').append(x.medians());
    for (int k = 0; k < 5; k++) {
      s.append(' ').append(x.without(k)).append(' ').append(x.leftOut(k)).append(' ').append(x.centres(k + 1));
    }
    for (int r = 0; r < 8; r++) {
      s.append(' ').append(x.within(r)).append(' ').append(x.lettersAt(r, 1)).append(' ').append(x.coreSet(r));
      s.append(' ').append(x.cover(r));
    }
    for (int m = 1; m <= 5; m += 2) {
      s.append(' ').append(x.motif(m)).append(Checks.motifOf(x, m)).append(' ').append(x.motifIn(m, 1));
    }
    return s.toString();
  }

  /** The TAPE still has its own bytes, which no other call shows. */
  private static void tapeIsKept(Checks c, NearWords x) {
    int number = x.count(0);
    c.due(x.word(), number);
    for (int i = 0; i < 4; i++) {
      c.due(x.of(number, 1 + i), 3 - i);
    }
  }

  @Edge(promise = 2, says = "False: another n, there are WORDS or TEXTS.")
  static void refusedLettersChangeNothing(Checks c) {
    NearWords x = wellFilled();
    String before = answers(x);
    for (int n = 0; n <= 5; n++) {
      c.no(x.letters(n));
    }
    c.due(answers(x), before);
    tapeIsKept(c, x);
  }

  @Edge(promise = 3, says = "False: no such two (of all four), alike, another COST.")
  static void refusedCostsChangeNothing(Checks c) {
    NearWords x = wellFilled();
    String before = answers(x);
    c.no(x.cost(0, 4, 5));
    c.no(x.cost(-1, 0, 5));
    c.no(x.cost(1, 1, 5));
    c.no(x.cost(0, 1, 0));
    c.no(x.cost(0, 1, 10));
    c.due(answers(x), before);
    tapeIsKept(c, x);
  }

  @Edge(promise = 4, says = "False: not 0 to 9.")
  static void refusedSwapsChangeNothing(Checks c) {
    NearWords x = wellFilled();
    String before = answers(x);
    c.no(x.swap(-1));
    c.no(x.swap(10));
    c.due(answers(x), before);
    tapeIsKept(c, x);
  }

  @Edge(promise = 5, says = "False: not 1 to 9.")
  static void refusedDropsChangeNothing(Checks c) {
    NearWords x = wellFilled();
    String before = answers(x);
    c.no(x.drop(0));
    c.no(x.drop(10));
    c.due(answers(x), before);
    tapeIsKept(c, x);
  }

  @Edge(promise = 6, says = "False: not 0 to 63.")
  static void refusedGapsChangeNothing(Checks c) {
    NearWords x = wellFilled();
    String before = answers(x);
    c.no(x.gap(-1));
    c.no(x.gap(64));
    c.due(answers(x), before);
    tapeIsKept(c, x);
  }

  @Edge(promise = 7, says = "NONE if these would be more than 40.")
  static void refusedBytesChangeNothing(Checks c) {
    NearWords x = wellFilled();
    x.feed(0, 0, 0, 0, 0);
    String before = answers(x);
    c.none(x.feed(0x61616161, 0, 0, 0, 0));
    c.due(answers(x), before);
    x.end(4);
    tapeIsKept(c, x);
  }

  @Edge(promise = 8, says = "NONE if it has less, or n is below 0.")
  static void refusedEndsChangeNothing(Checks c) {
    NearWords x = wellFilled();
    String before = answers(x);
    c.none(x.end(5));
    c.none(x.end(-1));
    c.due(answers(x), before);
    tapeIsKept(c, x);
  }

  @Edge(promise = 9, says = "NONE: it has other bytes than LETTERS, another length, eight are there.")
  static void refusedWordsChangeNothing(Checks c) {
    NearWords x = wellFilled();
    x.end(0);
    String before = answers(x);
    c.none(Checks.word(x, "aaae"));
    c.none(Checks.word(x, "aaa"));
    c.none(Checks.word(x, "aaaaa"));
    c.none(x.word());
    c.due(answers(x), before);
  }

  @Edge(promise = 9, says = "eight are there")
  static void theNinthWordChangesNothing(Checks c) {
    NearWords x = Checks.withWords("abc", "bca", "acc", "dca", "aaa", "bbb", "ccc", "ddd");
    Checks.text(x, "abcabc");
    int[] answers = {x.centre(), x.median(), x.medians(), x.middle(), x.coreSet(1), x.cover(1), x.without(3), x.within(2)};
    c.none(Checks.word(x, "dda"));
    int[] again = {x.centre(), x.median(), x.medians(), x.middle(), x.coreSet(1), x.cover(1), x.without(3), x.within(2)};
    for (int i = 0; i < answers.length; i++) {
      c.due(again[i], answers[i]);
    }
    c.due(x.of(7, 1), 3);
    c.due(x.of(7, 3), 3);
  }

  @Edge(promise = 10, says = "NONE: other bytes, no such length, five are there.")
  static void refusedTextsChangeNothing(Checks c) {
    NearWords x = wellFilled();
    x.end(0);
    String before = answers(x);
    c.none(Checks.text(x, "aaae"));
    c.none(Checks.text(x, "a".repeat(25)));
    c.none(x.text());
    c.due(answers(x), before);
  }

  @Edge(promise = 10, says = "five are there")
  static void theSixthTextChangesNothing(Checks c) {
    NearWords x = wellFilled();
    x.end(0);
    for (int t = 2; t < 5; t++) {
      Checks.text(x, "bbbbb");
    }
    String before = answers(x);
    c.none(Checks.text(x, "a"));
    c.due(answers(x), before);
  }

  @Edge(promise = 11, says = "False: no such ones.")
  static void refusedPartsChangeNothing(Checks c) {
    NearWords x = wellFilled();
    String before = answers(x);
    c.no(x.part(4, 0));
    c.no(x.part(-1, 2));
    c.no(x.part(0, 3));
    c.no(x.part(0, -1));
    c.due(answers(x), before);
    tapeIsKept(c, x);
  }

  @Edge(promise = 34, says = "NoSuchElementException: no such TEXT, or there is no MOTIF.")
  static void aThrownExceptionChangesNothing(Checks c) {
    NearWords x = wellFilled();
    String before = answers(x);
    int thrown = 0;
    int[][] bad = {{3, 2}, {3, -1}, {6, 0}, {0, 0}, {7, 1}};
    for (int[] args : bad) {
      try {
        x.motifIn(args[0], args[1]);
      } catch (NoSuchElementException e) {
        thrown++;
      }
    }
    c.due(thrown, bad.length);
    c.due(answers(x), before);
    tapeIsKept(c, x);
  }
}
