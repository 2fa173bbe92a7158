/** What has been answered before a change is not answered behind it: a room that was asked is as one that was not. */
final class ChangeEdges {
  private static final int ROWS = 0;
  private static final int SETS = 1;
  private static final int MIDDLE = 2;
  private static final int MOTIF = 3;

  private ChangeEdges() {
  }

  private static NearWords room() {
    NearWords x = new NearWords();
    x.letters(2);
    x.cost(0, 1, 5);
    for (String s : new String[] {"abb", "bab", "bbb"}) {
      Checks.word(x, s);
    }
    x.part(2, 2);
    Checks.text(x, "abb");
    Checks.text(x, "bab");
    return x;
  }

  private static String[] answers(NearWords x) {
    StringBuilder rows = new StringBuilder();
    StringBuilder sets = new StringBuilder();
    rows.append(x.centre()).append(Checks.centreOf(x)).append(x.median()).append(Checks.medianOf(x)).append(x.medians());
    for (int r = 0; r <= 5; r++) {
      rows.append(' ').append(x.within(r)).append(' ').append(x.lettersAt(r, 0));
      sets.append(' ').append(x.coreSet(r)).append(' ').append(x.cover(r));
    }
    for (int k = 0; k <= 3; k++) {
      sets.append(' ').append(x.without(k)).append(' ').append(x.leftOut(k)).append(' ').append(x.centres(k + 1));
    }
    String middle = x.middle() + Checks.middleOf(x);
    StringBuilder motif = new StringBuilder();
    for (int m = 1; m <= 3; m++) {
      motif.append(' ').append(x.motif(m)).append(Checks.motifOf(x, m));
    }
    return new String[] {rows.toString(), sets.toString(), middle, motif.toString()};
  }

  /** Looks whether a room that was asked ahead of a change answers as a fresh one, and otherwise than before. */
  private static void changed(Checks c, String[] before, NearWords asked, NearWords fresh, int... kinds) {
    String[] now = answers(asked);
    String[] due = answers(fresh);
    for (int kind = ROWS; kind <= MOTIF; kind++) {
      c.due(now[kind], due[kind]);
    }
    for (int kind : kinds) {
      c.no(now[kind].equals(before[kind]));
    }
  }

  @Edge(promise = 3, says = "The COST of two LETTERS")
  static void aNewCostCountsForAllThatComesBehindIt(Checks c) {
    NearWords asked = room();
    String[] before = answers(asked);
    NearWords fresh = room();
    asked.cost(1, 0, 1);
    fresh.cost(1, 0, 1);
    changed(c, before, asked, fresh, ROWS, SETS, MIDDLE, MOTIF);
  }

  @Edge(promise = 4, says = "SWAP is that.")
  static void aNewSwapCountsForAllThatComesBehindIt(Checks c) {
    NearWords asked = room();
    String[] before = answers(asked);
    NearWords fresh = room();
    asked.swap(1);
    fresh.swap(1);
    changed(c, before, asked, fresh, ROWS, SETS, MOTIF);
    asked.swap(0);
    changed(c, answers(fresh), asked, room(), ROWS, SETS, MOTIF);
  }

  @Edge(promise = 5, says = "DROP is that.")
  static void aNewDropCountsForAllThatComesBehindIt(Checks c) {
    NearWords asked = room();
    String[] before = answers(asked);
    NearWords fresh = room();
    asked.drop(1);
    fresh.drop(1);
    changed(c, before, asked, fresh, MIDDLE);
  }

  @Edge(promise = 6, says = "GAP is that.")
  static void aNewGapCountsForAllThatComesBehindIt(Checks c) {
    NearWords asked = room();
    String[] before = answers(asked);
    NearWords fresh = room();
    asked.gap(10);
    fresh.gap(10);
    changed(c, before, asked, fresh, ROWS, SETS);
    asked.gap(63);
    fresh = room();
    fresh.gap(63);
    changed(c, before, asked, fresh, ROWS, SETS);
    asked.gap(0);
    changed(c, answers(fresh), asked, room(), ROWS, SETS);
  }

  @Edge(promise = 9, says = "is a WORD")
  static void aNewWordCountsForAllThatComesBehindIt(Checks c) {
    NearWords asked = room();
    String[] before = answers(asked);
    NearWords fresh = room();
    Checks.word(asked, "aaa");
    Checks.word(fresh, "aaa");
    changed(c, before, asked, fresh, ROWS, SETS, MIDDLE);
    NearWords x = new NearWords();
    c.none(x.centre());
    c.none(x.middle());
    c.none(x.without(0));
    Checks.word(x, "b");
    c.due(x.centre(), 0);
    c.due(x.middle(), 0);
    c.due(x.without(0), 0);
  }

  @Edge(promise = 10, says = "is a TEXT")
  static void aNewTextCountsForAllThatComesBehindIt(Checks c) {
    NearWords asked = room();
    String[] before = answers(asked);
    NearWords fresh = room();
    Checks.text(asked, "aaa");
    Checks.text(fresh, "aaa");
    changed(c, before, asked, fresh, MOTIF);
    NearWords x = new NearWords();
    c.none(x.motif(1));
    Checks.text(x, "b");
    c.due(x.motif(1), 0);
  }

  @Edge(promise = 11, says = "The PART of a WORD")
  static void aNewPartCountsForAllThatComesBehindIt(Checks c) {
    for (int part = 0; part <= 2; part += 2) {
      NearWords asked = room();
      asked.gap(1);
      String[] before = answers(asked);
      NearWords fresh = room();
      fresh.gap(1);
      asked.part(0, part);
      fresh.part(0, part);
      changed(c, before, asked, fresh, ROWS, SETS, MIDDLE);
    }
  }

  @Edge(promise = 19, says = "Which LETTERS some of these have at place i")
  static void lettersGoWithTheirCandidates(Checks c) {
    NearWords x = Checks.withWords("aa");
    c.due(x.lettersAt(0, 0), 1);
    c.due(x.lettersAt(1, 0), 15);
    Checks.word(x, "bb");
    c.due(x.lettersAt(0, 0), 0);
    c.due(x.lettersAt(1, 0), 3);
  }
}
