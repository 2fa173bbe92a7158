import java.util.NoSuchElementException;

/** For each promise of the document: ordinary inputs, the edges that it names, and wrong inputs. */
public final class PromiseTest {
  private static final int NONE = NearWords.NONE;
  private static final int LOW = Integer.MIN_VALUE;
  private static final int HIGH = Integer.MAX_VALUE;
  private static final Checks CHECKS = new Checks();

  private static void due(String what, long got, long want) {
    CHECKS.due(what, got, want);
  }

  private static void due(String what, boolean got, boolean want) {
    CHECKS.due(what, got, want);
  }

  private static void due(String what, String got, String want) {
    CHECKS.due(what, got, want);
  }

  public static void main(String[] args) {
    aNewObject();
    letters();
    cost();
    swap();
    drop();
    gap();
    feed();
    end();
    word();
    text();
    part();
    apart();
    from();
    centre();
    without();
    within();
    core();
    cover();
    edits();
    middle();
    median();
    motif();
    of();
    count();
    answersFollowTheState();
    CHECKS.finish();
  }

  private static void aNewObject() {
    NearWords x = new NearWords();
    int[] want = {0, 0, 0, 0, 4, NONE, 0, 0, 0, 2, NONE};
    for (int what = 0; what < want.length; what++) {
      due("1: count " + what, x.count(what), want[what]);
    }
    x = Checks.withWords("abcd", "bcda", "aaaa");
    due("1: each cost 1", x.apart(0, 1), 4);
    due("1: each cost 1", x.apart(0, 2), 3);
  }

  private static void letters() {
    NearWords x = new NearWords();
    for (int n : new int[] {LOW, -1, 0, 1, 5, HIGH}) {
      due("2: letters " + n, x.letters(n), false);
    }
    due("2: still", x.count(4), 4);
    for (int n : new int[] {2, 4, 3}) {
      due("2: letters " + n, x.letters(n), true);
      due("2: now", x.count(4), n);
    }
    due("2: d is none", Checks.word(x, "d"), NONE);
    due("2: c is one", Checks.word(x, "c"), 0);
    due("2: with a word", x.letters(3), false);
    x = Checks.withTexts("a");
    due("2: with a text", x.letters(4), false);
    x = new NearWords();
    Checks.word(x, "x");
    due("2: with neither", x.letters(2), true);
  }

  private static void cost() {
    NearWords x = Checks.withWords("ab", "ba", "cd");
    for (int bad : new int[] {LOW, -1, 4, HIGH}) {
      due("3: no such letter", x.cost(bad, 1, 1), false);
      due("3: no such letter", x.cost(1, bad, 1), false);
    }
    for (int bad : new int[] {LOW, -1, 0, 10, HIGH}) {
      due("3: another cost", x.cost(0, 1, bad), false);
    }
    due("3: alike", x.cost(2, 2, 1), false);
    due("3: unchanged", x.apart(0, 1), 2);
    due("3: 9", x.cost(1, 0, 9), true);
    due("3: from either side", x.apart(0, 1), 18);
    due("3: others stay", x.apart(0, 2), 2);
    x = new NearWords();
    x.letters(2);
    due("3: of all four", x.cost(3, 2, 5), true);
    x.letters(4);
    Checks.word(x, "c");
    Checks.word(x, "d");
    due("3: kept", x.apart(0, 1), 5);
  }

  private static void swap() {
    NearWords x = new NearWords();
    for (int bad : new int[] {LOW, -1, 10, HIGH}) {
      due("4: swap " + bad, x.swap(bad), false);
    }
    due("4: still", x.count(6), 0);
    for (int v : new int[] {9, 1, 0}) {
      due("4: swap " + v, x.swap(v), true);
      due("4: now", x.count(6), v);
    }
  }

  private static void drop() {
    NearWords x = new NearWords();
    for (int bad : new int[] {LOW, -1, 0, 10, HIGH}) {
      due("5: drop " + bad, x.drop(bad), false);
    }
    due("5: still", x.count(9), 2);
    for (int v : new int[] {9, 1}) {
      due("5: drop " + v, x.drop(v), true);
      due("5: now", x.count(9), v);
    }
  }

  private static void gap() {
    NearWords x = new NearWords();
    for (int bad : new int[] {LOW, -1, 64, HIGH}) {
      due("6: gap " + bad, x.gap(bad), false);
    }
    due("6: still", x.count(7), 0);
    for (int v : new int[] {63, 1, 0}) {
      due("6: gap " + v, x.gap(v), true);
      due("6: now", x.count(7), v);
    }
  }

  private static void feed() {
    NearWords x = new NearWords();
    due("7: twenty", x.feed(0x61626364, 0x64636261, 0, -1, HIGH), 20);
    due("7: forty", x.feed(1, 2, 3, 4, 5), 40);
    due("7: more", x.feed(1, 2, 3, 4, 5), NONE);
    due("7: as it was", x.count(8), 40);
    due("7: the highest first", x.end(4), 4);
    due("7: a word of it", x.word(), 0);
    for (int i = 0; i < 4; i++) {
      due("7: letter " + i, x.of(0, 1 + i), i);
    }
    x.feed(0, 0, 0, 0, 0);
    x.feed(0, 0, 0, 0, 0);
    x.end(21);
    due("7: 41 are more", x.feed(0, 0, 0, 0, 0), NONE);
    due("7: as it was", x.count(8), 21);
    x.end(20);
    due("7: 40 are not", x.feed(0, 0, 0, 0, 0), 40);
    x = new NearWords();
    x.feed(0x64646464, 0, 0, 0, 0);
    x.end(2);
    x.feed(0x61626300, 0, 0, 0, 0);
    x.end(5);
    due("7: behind what is there", x.word(), 0);
    due("7: its first", x.of(0, 1), 3);
    due("7: its third", x.of(0, 3), 0);
    due("7: its last", x.of(0, 5), 2);
    x = new NearWords();
    x.feed(0, 0x61616161, 0x62626262, 0x63636363, 0x64646464);
    x.end(20);
    due("7: all five", x.text(), NONE);
    x.feed(0x61616161, 0x61616161, 0x62626262, 0x63636363, 0x64646464);
    due("7: all five", x.text(), 0);
    due("7: in their order", x.motif(6), 0);
    due("7: in their order", Checks.motifOf(x, 6), "aaaaaa");
  }

  private static void end() {
    NearWords x = new NearWords();
    due("8: an empty tape", x.end(0), 0);
    due("8: it has less", x.end(1), NONE);
    x.feed(0, 0, 0, 0, 0);
    for (int bad : new int[] {LOW, -1, 21, HIGH}) {
      due("8: end " + bad, x.end(bad), NONE);
    }
    due("8: as it was", x.count(8), 20);
    due("8: all of it", x.end(20), 20);
    due("8: some of it", x.end(7), 7);
    due("8: no more than that", x.end(8), NONE);
    due("8: now", x.count(8), 7);
    due("8: none", x.end(0), 0);
    due("8: now", x.count(8), 0);
  }

  private static void word() {
    NearWords x = new NearWords();
    due("9: empty", x.word(), NONE);
    due("9: too long", Checks.word(x, "aaaaaaaa"), NONE);
    due("9: empty then", x.count(8), 0);
    for (String bad : new String[] {"e", "A", "`", " ", "a e", "a" + (char) 0xe1, "" + (char) 0x161}) {
      due("9: other bytes " + bad, Checks.word(x, bad), bad.equals("" + (char) 0x161) ? 0 : NONE);
      due("9: empty then", x.count(8), 0);
    }
    x = new NearWords();
    due("9: seven", Checks.word(x, "abcdabc"), 0);
    due("9: length", x.count(5), 7);
    due("9: another length", Checks.word(x, "abcdab"), NONE);
    due("9: empty then", x.count(8), 0);
    due("9: empty", x.word(), NONE);
    for (int w = 1; w < 8; w++) {
      due("9: the same again", Checks.word(x, "abcdabc"), w);
    }
    due("9: eight are there", Checks.word(x, "abcdabc"), NONE);
    due("9: empty then", x.count(8), 0);
    due("9: eight", x.count(0), 8);
    due("9: near at first", x.count(1), 8);
    x = new NearWords();
    due("9: one letter", Checks.word(x, "d"), 0);
    due("9: length", x.count(5), 1);
  }

  private static void text() {
    NearWords x = new NearWords();
    due("10: empty", x.text(), NONE);
    due("10: 25", Checks.text(x, "a".repeat(25)), NONE);
    due("10: empty then", x.count(8), 0);
    due("10: other bytes", Checks.text(x, "abe"), NONE);
    due("10: 24", Checks.text(x, "a".repeat(24)), 0);
    due("10: 1", Checks.text(x, "b"), 1);
    for (int t = 2; t < 5; t++) {
      due("10: another", Checks.text(x, "abc"), t);
    }
    due("10: five are there", Checks.text(x, "abc"), NONE);
    due("10: empty then", x.count(8), 0);
    due("10: five", x.count(3), 5);
    due("10: no words by it", x.count(0), 0);
    x = new NearWords();
    x.letters(3);
    due("10: no such letter", Checks.text(x, "abcd"), NONE);
    due("10: none", x.count(3), 0);
  }

  private static void part() {
    NearWords x = Checks.withWords("aa", "bb");
    for (int bad : new int[] {LOW, -1, 2, HIGH}) {
      due("11: no such word", x.part(bad, 1), false);
    }
    for (int bad : new int[] {LOW, -1, 3, HIGH}) {
      due("11: no such part", x.part(0, bad), false);
    }
    for (int part : new int[] {2, 0, 1, 2}) {
      due("11: part", x.part(1, part), true);
      due("11: now", x.of(1, 0), part);
    }
    due("11: near", x.count(1), 1);
    due("11: far", x.count(2), 1);
    due("11: the others stay", x.of(0, 0), 1);
  }

  private static void apart() {
    NearWords x = Checks.withWords("abcd", "badc", "abdc", "bacd");
    due("12: each place", x.apart(0, 1), 4);
    due("12: itself", x.apart(2, 2), 0);
    x.swap(1);
    due("12: two swaps", x.apart(0, 1), 2);
    due("12: one swap", x.apart(0, 2), 1);
    due("12: and back", x.apart(2, 0), 1);
    x.swap(2);
    due("12: as dear", x.apart(0, 2), 2);
    x.swap(3);
    due("12: too dear", x.apart(0, 1), 4);
    x.cost(0, 1, 9);
    due("12: swap here, change there", x.apart(0, 1), 5);
    for (int bad : new int[] {LOW, -1, 4, HIGH}) {
      due("12: no such word", x.apart(bad, 0), NONE);
      due("12: no such word", x.apart(0, bad), NONE);
    }
    x = Checks.withWords("aba", "baa", "aab");
    x.swap(1);
    due("12: each place once", x.apart(1, 2), 2);
    x.cost(0, 1, 9);
    due("12: each place once", x.apart(1, 2), 18);
    x = Checks.withWords("abc", "bca");
    x.cost(0, 1, 9);
    x.swap(1);
    due("12: only the other's in turned order", x.apart(0, 1), 11);
    x = Checks.withWords("a", "c");
    x.cost(0, 2, 9);
    due("12: one change a place", x.apart(0, 1), 9);
    x = Checks.withWords("aaaaaaa", "bbbbbbb");
    x.cost(0, 1, 9);
    due("12: the furthest", x.apart(0, 1), 63);
  }

  private static void from() {
    NearWords x = Checks.withWords("abc", "ccc");
    Checks.tape(x, "bac");
    due("13: from", x.from(0), 2);
    due("13: empty then", x.count(8), 0);
    due("13: empty", x.from(0), NONE);
    String[] bad = {"ab", "abcd", "abe", "ABC"};
    for (String s : bad) {
      Checks.tape(x, s);
      due("13: not that " + s, x.from(1), NONE);
      due("13: empty then", x.count(8), 0);
    }
    for (int w : new int[] {LOW, -1, 2, HIGH}) {
      Checks.tape(x, "abc");
      due("13: no such word", x.from(w), NONE);
      due("13: empty then", x.count(8), 0);
    }
    x.swap(1);
    Checks.tape(x, "bac");
    due("13: swapped", x.from(0), 1);
    x = new NearWords();
    due("13: without words", x.from(0), NONE);
  }

  private static void centre() {
    NearWords x = new NearWords();
    due("14: no word", x.centre(), NONE);
    due("15: no word", x.centreAt(0), NONE);
    x = Checks.withWords("ccc", "ddd");
    due("14: between", x.centre(), 2);
    due("15: the first of them", Checks.centreOf(x), "acd");
    for (int bad : new int[] {LOW, -1, 3, HIGH}) {
      due("15: no such place", x.centreAt(bad), NONE);
    }
    x.cost(0, 2, 3);
    x.cost(0, 3, 3);
    due("14: costs count", x.centre(), 2);
    due("15: costs count", Checks.centreOf(x), "bcd");
    x.part(1, 0);
    due("14: one alone", x.centre(), 0);
    due("15: one alone", Checks.centreOf(x), "ccc");
    x.part(0, 2);
    due("14: none is near", x.centre(), NONE);
    due("15: none is near", x.centreAt(0), NONE);
    x.part(1, 1);
    x.part(0, 1);
    x.part(1, 2);
    x.gap(3);
    due("14: far enough", x.centre(), 0);
    x.gap(4);
    due("14: further", x.centre(), 3);
    due("15: further", Checks.centreOf(x), "acc");
    x.gap(9);
    due("14: as far as can be", x.centre(), 9);
    due("15: as far as can be", Checks.centreOf(x), "aaa");
    x.gap(10);
    due("14: no candidate", x.centre(), NONE);
    due("15: no candidate", x.centreAt(0), NONE);
    x = Checks.withWords("ba", "ab");
    x.cost(0, 1, 9);
    x.swap(2);
    due("14: swaps count", x.centre(), 2);
    due("15: swaps count", Checks.centreOf(x), "ab");
  }

  private static void without() {
    NearWords x = new NearWords();
    due("16: no word", x.without(0), NONE);
    due("17: no word", x.leftOut(0), NONE);
    x = Checks.withWords("aaa", "aab", "aba", "ddd");
    due("16: all", x.without(0), 2);
    due("17: all", x.leftOut(0), 0);
    due("16: but one", x.without(1), 1);
    due("17: but one", x.leftOut(1), 8);
    due("16: but two", x.without(2), 1);
    due("17: but two", x.leftOut(2), 8);
    due("16: but three", x.without(3), 0);
    due("17: but three", x.leftOut(3), 14);
    due("16: but all", x.without(4), 0);
    due("17: but all, the first row is a word", x.leftOut(4), 14);
    due("16: seven", x.without(7), 0);
    for (int bad : new int[] {LOW, -1, 8, HIGH}) {
      due("16: another k", x.without(bad), NONE);
      due("17: another k", x.leftOut(bad), NONE);
    }
    x.part(0, 2);
    x.gap(1);
    due("17: the first candidate is aab", x.leftOut(7), 12);
    x.gap(3);
    due("16: far", x.without(0), 2);
    due("16: far", x.without(1), 2);
    due("16: far", x.without(2), 0);
    due("17: far", x.leftOut(2), 6);
    x.gap(4);
    due("16: no candidate", x.without(7), NONE);
    due("17: no candidate", x.leftOut(7), NONE);
    x.part(0, 0);
    x.part(1, 0);
    x.part(2, 0);
    x.part(3, 0);
    x.gap(0);
    due("16: no near word", x.without(1), NONE);
    due("17: no near word", x.leftOut(1), NONE);
  }

  private static void within() {
    NearWords x = new NearWords();
    due("18: no word", x.within(63), NONE);
    due("19: no word", x.lettersAt(63, 0), NONE);
    x = Checks.withWords("aa", "bb");
    due("18: 0", x.within(0), 0);
    due("19: 0", x.lettersAt(0, 0), 0);
    due("18: 1", x.within(1), 2);
    due("19: 1", x.lettersAt(1, 0), 3);
    due("19: 1", x.lettersAt(1, 1), 3);
    due("18: 2", x.within(2), 16);
    due("19: 2", x.lettersAt(2, 1), 15);
    due("18: 63", x.within(63), 16);
    for (int bad : new int[] {LOW, -1, 64, HIGH}) {
      due("18: another r", x.within(bad), NONE);
      due("19: another r", x.lettersAt(bad, 0), NONE);
    }
    for (int bad : new int[] {LOW, -1, 2, HIGH}) {
      due("19: no such place", x.lettersAt(2, bad), NONE);
    }
    x.part(1, 2);
    x.gap(1);
    due("18: but the far one", x.within(63), 15);
    due("18: around one", x.within(1), 7);
    due("19: around one", x.lettersAt(0, 0), 1);
    x.gap(3);
    due("18: no candidate", x.within(63), 0);
    due("19: no candidate", x.lettersAt(63, 0), 0);
    x.part(0, 2);
    due("18: no near word", x.within(63), NONE);
    due("19: no near word", x.lettersAt(63, 0), NONE);
    x = new NearWords();
    x.letters(3);
    Checks.word(x, "aaaaaaa");
    x.cost(0, 1, 9);
    x.cost(0, 2, 9);
    due("18: all rows", x.within(63), 2187);
    due("18: all but those without an a", x.within(62), 2187 - 128);
    due("19: three letters", x.lettersAt(63, 6), 7);
  }

  private static void core() {
    NearWords x = new NearWords();
    due("20: no word", x.core(0), NONE);
    due("21: no word", x.coreSet(0), NONE);
    x = Checks.withWords("aa", "bb", "aa", "cc", "dd");
    due("20: two unlike ones", x.core(0), 2);
    due("21: the least as bits", x.coreSet(0), 3);
    due("20: three", x.core(1), 3);
    due("21: three", x.coreSet(1), 11);
    due("20: all are held", x.core(2), 0);
    due("21: all are held", x.coreSet(2), 0);
    x.part(0, 0);
    due("21: without the first", x.coreSet(0), 6);
    due("21: without the first", x.coreSet(1), 14);
    x.part(1, 2);
    due("20: far", x.core(1), 3);
    due("21: far", x.coreSet(1), 28);
    x.gap(2);
    due("20: far with a gap", x.core(1), 3);
    due("21: far with a gap", x.coreSet(1), 28);
    x.gap(3);
    due("20: no candidate", x.core(63), 1);
    due("21: no candidate", x.coreSet(63), 4);
    for (int bad : new int[] {LOW, -1, 64, HIGH}) {
      due("20: another r", x.core(bad), NONE);
      due("21: another r", x.coreSet(bad), NONE);
    }
    x = Checks.withWords("a", "a");
    x.part(1, 2);
    x.gap(1);
    due("20: one alone that is barred", x.core(0), 1);
    due("21: one alone that is barred", x.coreSet(0), 1);
    due("20: one alone", x.core(1), 0);
    x.part(0, 0);
    due("20: no near word", x.core(1), NONE);
    due("21: no near word", x.coreSet(1), NONE);
    x = new NearWords();
    x.letters(2);
    for (String s : new String[] {"aaa", "aab", "aba", "abb", "baa", "bab", "bba", "bbb"}) {
      Checks.word(x, s);
    }
    due("20: each row is barred by one word alone", x.core(2), 8);
    due("21: each row is barred by one word alone", x.coreSet(2), 255);
    due("22: each row is barred by one word alone", x.cover(2), 2);
    due("20: nearer", x.core(1), 2);
    due("21: nearer, the least as bits", x.coreSet(1), 24);
    x = Checks.withWords("a");
    x.part(0, 0);
    due("21: no near word", x.coreSet(1), NONE);
  }

  private static void cover() {
    NearWords x = new NearWords();
    due("22: no word", x.cover(0), NONE);
    due("23: no word", x.centres(1), NONE);
    x = Checks.withWords("aaa", "aab", "ddd", "ddc", "bbb");
    due("22: 0", x.cover(0), 5);
    due("22: 1", x.cover(1), 3);
    due("22: 2", x.cover(2), 1);
    due("22: 63", x.cover(63), 1);
    int[] least = {2, 2, 1, 1, 0, 0, 0, 0};
    for (int k = 1; k <= 8; k++) {
      due("23: " + k, x.centres(k), least[k - 1]);
    }
    for (int bad : new int[] {LOW, -1, 0, 9, HIGH}) {
      due("23: another k", x.centres(bad), NONE);
    }
    for (int bad : new int[] {LOW, -1, 64, HIGH}) {
      due("22: another r", x.cover(bad), NONE);
    }
    x.part(2, 2);
    x.gap(2);
    due("22: ddc is barred", x.cover(0), -2);
    due("22: but not from afar", x.cover(1), 3);
    due("23: but not from afar", x.centres(8), 1);
    x.gap(4);
    due("22: no candidate", x.cover(63), -2);
    due("23: no such r", x.centres(8), NONE);
    for (int w = 0; w < 5; w++) {
      x.part(w, 0);
    }
    due("22: no near word", x.cover(63), NONE);
    due("23: no near word", x.centres(8), NONE);
    x = new NearWords();
    x.letters(2);
    Checks.word(x, "aaaaaaa");
    Checks.word(x, "aaaaaaa");
    x.cost(0, 1, 9);
    x.part(1, 2);
    x.gap(63);
    due("14: as far as can be at all", x.centre(), 63);
    due("15: as far as can be at all", Checks.centreOf(x), "bbbbbbb");
    due("22: as far as can be at all", x.cover(63), 1);
    due("22: no nearer", x.cover(62), -2);
    due("23: as far as can be at all", x.centres(1), 63);
    x.part(0, 0);
    due("23: no near word", x.centres(8), NONE);
  }

  private static void edits() {
    NearWords x = Checks.withWords("abcd", "bcda", "abdc");
    due("24: gone and come", x.edits(0, 1), 4);
    x.drop(1);
    due("24: gone and come", x.edits(0, 1), 2);
    due("24: and back", x.edits(1, 0), 2);
    due("24: itself", x.edits(1, 1), 0);
    x.drop(9);
    x.swap(1);
    due("24: no swap", x.edits(0, 2), 2);
    x.drop(1);
    x.cost(2, 3, 9);
    due("24: going and coming for a change", x.edits(0, 2), 2);
    for (int bad : new int[] {LOW, -1, 3, HIGH}) {
      due("24: no such word", x.edits(bad, 0), NONE);
      due("24: no such word", x.edits(0, bad), NONE);
    }
    Checks.tape(x, "a");
    due("25: one letter", x.editsFrom(0), 3);
    due("25: empty then", x.count(8), 0);
    Checks.tape(x, "aabbccdd");
    due("25: eight letters", x.editsFrom(0), 4);
    x.drop(3);
    Checks.tape(x, "ab");
    due("25: two come", x.editsFrom(0), 6);
    String[] bad = {"", "abcdabcda", "abe"};
    for (String s : bad) {
      Checks.tape(x, s);
      due("25: not that " + s, x.editsFrom(0), NONE);
      due("25: empty then", x.count(8), 0);
    }
    for (int w : new int[] {LOW, -1, 3, HIGH}) {
      Checks.tape(x, "abcd");
      due("25: no such word", x.editsFrom(w), NONE);
      due("25: empty then", x.count(8), 0);
    }
  }

  private static void middle() {
    NearWords x = new NearWords();
    due("26: no word", x.middle(), NONE);
    due("27: no word", x.middleLength(), NONE);
    due("28: no word", x.middleAt(0), NONE);
    x = Checks.withWords("abcd", "bcda", "dabc");
    x.drop(1);
    due("26: sum", x.middle(), 4);
    due("28: the first of the shortest", Checks.middleOf(x), "abcd");
    due("27: length", x.middleLength(), 4);
    x.part(1, 2);
    due("26: far ones do not count", x.middle(), 2);
    due("28: the shortest", Checks.middleOf(x), "abc");
    due("27: the shortest", x.middleLength(), 3);
    x.gap(63);
    due("26: nor does the gap", x.middle(), 2);
    for (int bad : new int[] {LOW, -1, 3, HIGH}) {
      due("28: no such place", x.middleAt(bad), NONE);
    }
    x = Checks.withWords("a", "b", "b");
    due("26: one letter", x.middle(), 1);
    due("28: one letter", Checks.middleOf(x), "b");
    x = Checks.withWords("c", "d");
    x.drop(9);
    due("26: of several", x.middle(), 1);
    due("28: the first", Checks.middleOf(x), "c");
    x = Checks.withWords("abababa", "bababab");
    x.drop(1);
    x.cost(0, 1, 9);
    due("26: six between", x.middle(), 2);
    due("28: six between", Checks.middleOf(x), "ababab");
    x = Checks.withWords("caabcab", "bcaabca", "caabcab", "bcaabca", "bcaabcb", "bcaabcb");
    x.drop(1);
    for (int a = 0; a < 4; a++) {
      for (int b = 0; b < a; b++) {
        x.cost(a, b, 9);
      }
    }
    due("26: eight", x.middle(), 6);
    due("27: eight", x.middleLength(), 8);
    due("28: eight", Checks.middleOf(x), "bcaabcab");
    for (int w = 0; w < 6; w++) {
      x.part(w, 0);
    }
    due("26: no near word", x.middle(), NONE);
    due("27: no near word", x.middleLength(), NONE);
    due("28: no near word", x.middleAt(0), NONE);
  }

  private static void median() {
    NearWords x = new NearWords();
    due("29: no word", x.median(), NONE);
    due("30: no word", x.medianAt(0), NONE);
    due("31: no word", x.medians(), NONE);
    x = Checks.withWords("dad", "dbd", "cbd", "cbc");
    due("29: sum", x.median(), 4);
    due("30: the first", Checks.medianOf(x), "cbd");
    due("31: how many", x.medians(), 2);
    for (int bad : new int[] {LOW, -1, 3, HIGH}) {
      due("30: no such place", x.medianAt(bad), NONE);
    }
    x.part(3, 0);
    due("29: three", x.median(), 2);
    due("30: three", Checks.medianOf(x), "dbd");
    due("31: three", x.medians(), 1);
    x.part(1, 2);
    x.gap(1);
    due("29: but the far one", x.median(), 2);
    due("30: but the far one", Checks.medianOf(x), "cad");
    due("31: but the far one", x.medians(), 3);
    x.gap(4);
    due("29: no candidate", x.median(), NONE);
    due("30: no candidate", x.medianAt(0), NONE);
    due("31: no candidate", x.medians(), NONE);
    x.gap(0);
    x.part(0, 0);
    x.part(2, 2);
    due("29: no near word", x.median(), NONE);
    due("31: no near word", x.medians(), NONE);
    x = Checks.withWords("ab", "ba");
    x.swap(1);
    due("29: swaps count", x.median(), 1);
    due("31: swaps count", x.medians(), 2);
  }

  private static void motif() {
    NearWords x = new NearWords();
    due("32: no text", x.motif(1), NONE);
    due("33: no text", x.motifAt(1, 0), NONE);
    due("34: no text", throwsAt(x, 1, 0), true);
    x = Checks.withTexts("ddabcdd", "cabcc", "bbbabdab");
    due("32: 3", x.motif(3), 1);
    due("33: 3", Checks.motifOf(x, 3), "aab");
    due("34: 3 in 0", x.motifIn(3, 0), 1);
    due("34: 3 in 1", x.motifIn(3, 1), 0);
    due("34: the first of several", x.motifIn(3, 2), 2);
    due("32: 2", x.motif(2), 0);
    due("33: 2", Checks.motifOf(x, 2), "ab");
    due("34: 2 in 0", x.motifIn(2, 0), 2);
    due("34: 2 in 1", x.motifIn(2, 1), 1);
    due("34: 2 in 2", x.motifIn(2, 2), 3);
    due("32: 5", x.motif(5) != NONE, true);
    due("32: one is shorter", x.motif(6), NONE);
    due("33: one is shorter", x.motifAt(6, 0), NONE);
    due("34: one is shorter", throwsAt(x, 6, 0), true);
    for (int bad : new int[] {LOW, -1, 0, 7, HIGH}) {
      due("32: another m", x.motif(bad), NONE);
      due("33: another m", x.motifAt(bad, 0), NONE);
      due("34: another m", throwsAt(x, bad, 0), true);
    }
    for (int bad : new int[] {LOW, -1, 3, HIGH}) {
      due("33: no such place", x.motifAt(3, bad), NONE);
      due("34: no such text", throwsAt(x, 3, bad), true);
    }
    Checks.word(x, "ab");
    x.part(0, 2);
    x.gap(63);
    due("32: whatever far words", x.motif(2), 0);
    x = Checks.withTexts("ab", "ba");
    due("32: without swap", x.motif(2), 1);
    due("33: without swap", Checks.motifOf(x, 2), "aa");
    x.cost(0, 1, 5);
    x.swap(2);
    due("32: with swap", x.motif(2), 2);
    due("33: with swap", Checks.motifOf(x, 2), "ab");
    x.cost(0, 1, 1);
    due("33: cheap again", Checks.motifOf(x, 2), "aa");
    x = Checks.withTexts("abcdabcdabcdabcdabcdabcd", "dcbadcbadcbadcbadcbadcba");
    due("32: long ones", x.motif(6), 2);
    due("33: long ones", Checks.motifOf(x, 6), "aabcba");
    due("34: long ones", x.motifIn(6, 0), 3);
    due("34: long ones", x.motifIn(6, 1), 2);
  }

  private static boolean throwsAt(NearWords x, int m, int text) {
    try {
      x.motifIn(m, text);
      return false;
    } catch (NoSuchElementException e) {
      return true;
    }
  }

  private static void of() {
    NearWords x = Checks.withWords("bd", "ca");
    x.part(1, 0);
    due("35: part", x.of(0, 0), 1);
    due("35: part", x.of(1, 0), 0);
    due("35: letter 0", x.of(0, 1), 1);
    due("35: letter 1", x.of(0, 2), 3);
    due("35: letter 1", x.of(1, 2), 0);
    for (int bad : new int[] {LOW, -1, 3, HIGH}) {
      due("35: what " + bad, x.of(0, bad), NONE);
    }
    for (int bad : new int[] {LOW, -1, 2, HIGH}) {
      due("35: no such word", x.of(bad, 0), NONE);
    }
  }

  private static void count() {
    NearWords x = new NearWords();
    x.letters(3);
    Checks.text(x, "abcab");
    Checks.text(x, "a");
    for (int w = 0; w < 6; w++) {
      Checks.word(x, "abc");
    }
    x.part(0, 2);
    x.part(1, 2);
    x.part(2, 0);
    x.swap(7);
    x.gap(33);
    x.drop(8);
    x.feed(0, 0, 0, 0, 0);
    x.end(13);
    int[] want = {6, 3, 2, 2, 3, 3, 7, 33, 13, 8, 5, 1, NONE, NONE, NONE, NONE};
    for (int what = 0; what < want.length; what++) {
      due("36: count " + what, x.count(what), want[what]);
    }
    for (int bad : new int[] {LOW, LOW + 9, -1, HIGH}) {
      due("36: what " + bad, x.count(bad), NONE);
    }
  }

  /** What has been answered once is not answered again when the state has changed. */
  private static void answersFollowTheState() {
    NearWords x = Checks.withWords("aa", "bb");
    String before = answers(x);
    x.part(1, 0);
    String alone = answers(x);
    due("part changes answers", before.equals(alone), false);
    x.part(1, 1);
    due("and back", answers(x), before);
    x.cost(0, 1, 4);
    due("cost changes answers", before.equals(answers(x)), false);
    x.cost(0, 1, 1);
    due("and back", answers(x), before);
    Checks.word(x, "cc");
    due("a word changes answers", before.equals(answers(x)), false);
    x.part(2, 2);
    x.gap(2);
    due("a gap changes answers", before.equals(answers(x)), false);
    x.gap(0);
    due("and back", answers(x), before);
    x = Checks.withWords("aab", "aba");
    before = answers(x);
    x.swap(1);
    due("swap changes answers", before.equals(answers(x)), false);
    x.swap(0);
    due("and back", answers(x), before);
    x = Checks.withWords("abc", "bca");
    int sum = x.middle();
    x.drop(1);
    due("drop changes the middle", x.middle() != sum, true);
    x = Checks.withTexts("aa");
    due("a text alone", x.motif(2), 0);
    Checks.text(x, "bb");
    due("a text changes the motif", x.motif(2), 1);
    x.cost(0, 1, 3);
    due("cost changes the motif", x.motif(2), 2);
    due("cost changes the motif", Checks.motifOf(x, 2), "cc");
  }

  private static String answers(NearWords x) {
    StringBuilder s = new StringBuilder();
    s.append(x.centre()).append(Checks.centreOf(x)).append(x.median()).append(Checks.medianOf(x)).append(x.medians());
    for (int k = 0; k < 8; k++) {
      s.append(' ').append(x.without(k)).append(' ').append(x.leftOut(k)).append(' ').append(x.centres(k + 1));
    }
    for (int r = 0; r < 4; r++) {
      s.append(' ').append(x.within(r)).append(' ').append(x.lettersAt(r, 0)).append(' ').append(x.coreSet(r));
      s.append(' ').append(x.cover(r));
    }
    return s.append(x.middle()).append(Checks.middleOf(x)).toString();
  }
}
