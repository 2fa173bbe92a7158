/** The boundary cases of promises 7 to 11: the TAPE, and the WORDS and TEXTS that come by it. */
final class TapeEdges {
  private TapeEdges() {
  }

  private static final String TWENTY_FOUR = "abcdabcdabcdabcdabcdabcd";

  private static String wordAt(NearWords x, int word) {
    StringBuilder s = new StringBuilder();
    for (int i = 0; i < x.count(5); i++) {
      s.append((char) ('a' + x.of(word, 1 + i)));
    }
    return s.toString();
  }

  private static NearWords eightWords() {
    return Checks.withWords("aa", "ab", "ac", "ad", "ba", "bb", "bc", "bd");
  }

  private static NearWords fiveTexts() {
    return Checks.withTexts("aa", "ab", "ac", "ad", "ba");
  }

  @Edge(promise = 7, says = "Twenty bytes come behind the TAPE")
  static void bytesComeBehindThoseThatAreThere(Checks c) {
    NearWords x = new NearWords();
    x.feed(0x64646464, 0, 0, 0, 0);
    x.end(3);
    c.due(x.feed(0x61626361, 0, 0, 0, 0), 23);
    x.end(7);
    c.due(x.word(), 0);
    c.due(wordAt(x, 0), "dddabca");
  }

  @Edge(promise = 7, says = "Twenty bytes")
  static void eachOfTheBytesHasItsPlace(Checks c) {
    // THE MOTIF of one letter is the b, which the first text has at one place alone.
    for (int place = 0; place < 24; place++) {
      NearWords x = Checks.withTexts("b");
      c.due(Checks.text(x, "a".repeat(place) + "b" + "a".repeat(23 - place)), 1);
      c.due(x.motif(1), 0);
      c.due(x.motifIn(1, 1), place);
    }
  }

  @Edge(promise = 7, says = "of each number the highest first")
  static void theHighestByteOfANumberComesFirst(Checks c) {
    NearWords x = new NearWords();
    x.feed(0x61626364, 0x64636261, 0, 0, 0);
    x.end(7);
    x.word();
    c.due(wordAt(x, 0), "abcddcb");
  }

  @Edge(promise = 7, says = "of each number the highest first")
  static void bytesKeepTheirHighestBit(Checks c) {
    NearWords x = new NearWords();
    x.feed(0xe1616161, 0, 0, 0, 0);
    x.end(1);
    c.none(x.word());
    x.feed(0x61e16161, 0, 0, 0, 0);
    x.end(2);
    c.none(x.text());
    x.feed(-1, -1, -1, -1, -1);
    c.due(x.count(8), 20);
    c.none(x.word());
  }

  @Edge(promise = 7, says = "how many it has")
  static void feedTellsHowManyThereAre(Checks c) {
    NearWords x = new NearWords();
    c.due(x.feed(0, 0, 0, 0, 0), 20);
    c.due(x.feed(0, 0, 0, 0, 0), 40);
    c.due(x.count(8), 40);
    x.end(1);
    c.due(x.feed(0, 0, 0, 0, 0), 21);
  }

  @Edge(promise = 7, says = "NONE if these would be more than 40.")
  static void aTapeOfTwentyHasJustRoomForMore(Checks c) {
    NearWords x = new NearWords();
    x.feed(0, 0, 0, 0, 0);
    x.feed(0, 0, 0, 0, 0);
    x.end(20);
    c.due(x.feed(0, 0, 0, 0, 0), 40);
    x.end(19);
    c.due(x.feed(0, 0, 0, 0, 0), 39);
  }

  @Edge(promise = 7, says = "NONE if these would be more than 40.")
  static void aTapeOfTwentyOneOrMoreTakesNone(Checks c) {
    for (int size = 40; size > 20; size--) {
      NearWords x = new NearWords();
      x.feed(0, 0, 0, 0, 0);
      x.feed(0, 0, 0, 0, 0);
      x.end(size);
      c.none(x.feed(0, 0, 0, 0, 0));
      c.due(x.count(8), size);
    }
  }

  @Edge(promise = 7, says = "NONE if these would be more than 40.")
  static void refusedBytesLeaveTheOthers(Checks c) {
    NearWords x = new NearWords();
    x.feed(0x61626364, 0, 0, 0, 0);
    x.feed(0, 0, 0, 0, 0);
    c.none(x.feed(0x64646464, 0x64646464, 0x64646464, 0x64646464, 0x64646464));
    x.end(4);
    x.word();
    c.due(wordAt(x, 0), "abcd");
  }

  @Edge(promise = 8, says = "The TAPE has its first n bytes alone: n")
  static void theFirstBytesStayAlone(Checks c) {
    NearWords x = new NearWords();
    x.feed(0x61626364, 0x61616161, 0, 0, 0);
    c.due(x.end(3), 3);
    c.due(x.count(8), 3);
    x.word();
    c.due(wordAt(x, 0), "abc");
  }

  @Edge(promise = 8, says = "The TAPE has its first n bytes alone: n")
  static void allBytesMayStay(Checks c) {
    NearWords x = new NearWords();
    x.feed(0, 0, 0, 0, 0);
    c.due(x.end(20), 20);
    x.feed(0, 0, 0, 0, 0);
    c.due(x.end(40), 40);
    c.due(x.count(8), 40);
  }

  @Edge(promise = 8, says = "The TAPE has its first n bytes alone: n")
  static void noByteMayStay(Checks c) {
    NearWords x = new NearWords();
    c.due(x.end(0), 0);
    x.feed(0, 0, 0, 0, 0);
    c.due(x.end(0), 0);
    c.due(x.count(8), 0);
    c.due(x.end(0), 0);
  }

  @Edge(promise = 8, says = "NONE if it has less")
  static void aTapeOfLessIsNotEnded(Checks c) {
    NearWords x = new NearWords();
    c.none(x.end(1));
    x.feed(0, 0, 0, 0, 0);
    for (int n : Checks.outside(0, 20)) {
      c.none(x.end(n));
      c.due(x.count(8), 20);
    }
    x.feed(0, 0, 0, 0, 0);
    c.none(x.end(41));
    c.due(x.count(8), 40);
  }

  @Edge(promise = 8, says = "it has less")
  static void whatWasCutOffIsGone(Checks c) {
    NearWords x = new NearWords();
    x.feed(0x61626364, 0, 0, 0, 0);
    x.end(2);
    c.none(x.end(3));
    c.due(x.count(8), 2);
    x.word();
    c.due(wordAt(x, 0), "ab");
  }

  @Edge(promise = 8, says = "or n is below 0")
  static void aTapeDoesNotEndBelowZero(Checks c) {
    NearWords x = new NearWords();
    c.none(x.end(-1));
    x.feed(0x61626364, 0, 0, 0, 0);
    c.none(x.end(-1));
    c.none(x.end(Integer.MIN_VALUE));
    c.due(x.count(8), 20);
    c.due(x.end(4), 4);
  }

  @Edge(promise = 9, says = "The TAPE (empty then, in any case) is a WORD: its number.")
  static void wordsAreNumberedAsTheyCome(Checks c) {
    NearWords x = new NearWords();
    c.due(Checks.word(x, "ab"), 0);
    c.due(x.count(8), 0);
    c.due(Checks.word(x, "cd"), 1);
    c.due(x.count(8), 0);
    c.due(wordAt(x, 0), "ab");
    c.due(wordAt(x, 1), "cd");
    c.due(x.of(1, 0), 1);
  }

  @Edge(promise = 9, says = "is a WORD")
  static void oneLetterIsTheShortestWord(Checks c) {
    NearWords x = new NearWords();
    c.due(Checks.word(x, "d"), 0);
    c.due(x.count(5), 1);
    c.due(wordAt(x, 0), "d");
  }

  @Edge(promise = 9, says = "is a WORD")
  static void sevenLettersAreTheLongestWord(Checks c) {
    NearWords x = new NearWords();
    c.due(Checks.word(x, "abcddcb"), 0);
    c.due(x.count(5), 7);
    c.due(wordAt(x, 0), "abcddcb");
  }

  @Edge(promise = 9, says = "is a WORD")
  static void alikeWordsAreTwo(Checks c) {
    NearWords x = Checks.withWords("ab");
    c.due(Checks.word(x, "ab"), 1);
    c.due(x.count(0), 2);
  }

  @Edge(promise = 9, says = "(empty then, in any case)")
  static void theTapeIsEmptyWhateverWordAnswers(Checks c) {
    String[] rows = {"abc", "abe", "abcdabcd", "ab", "a".repeat(21), "e".repeat(40)};
    for (String row : rows) {
      NearWords x = Checks.withWords("bbb");
      Checks.tape(x, row);
      x.word();
      c.due(x.count(8), 0);
      c.none(x.end(1));
    }
    NearWords x = eightWords();
    Checks.tape(x, "aa");
    c.none(x.word());
    c.due(x.count(8), 0);
  }

  @Edge(promise = 9, says = "NONE: it has other bytes than LETTERS")
  static void onlyLettersMakeAWord(Checks c) {
    for (int sign = 0; sign < 256; sign++) {
      NearWords x = new NearWords();
      x.feed(sign << 24, 0, 0, 0, 0);
      x.end(1);
      c.due(x.word(), sign >= 'a' && sign <= 'd' ? 0 : NearWords.NONE);
    }
  }

  @Edge(promise = 9, says = "other bytes than LETTERS")
  static void anotherByteAtAnyPlaceMakesNoWord(Checks c) {
    for (int place = 0; place < 7; place++) {
      for (char sign : new char[] {'`', 'e', 'A', ' ', 0, 255}) {
        StringBuilder row = new StringBuilder("aaaaaaa");
        row.setCharAt(place, sign);
        NearWords x = new NearWords();
        c.none(Checks.word(x, row.toString()));
        c.due(x.count(0), 0);
        c.none(x.count(5));
      }
    }
  }

  @Edge(promise = 9, says = "other bytes than LETTERS")
  static void theLettersThatCountMakeAWord(Checks c) {
    for (int n = 2; n <= 4; n++) {
      NearWords x = new NearWords();
      x.letters(n);
      c.none(Checks.word(x, "" + (char) ('a' + n)));
      c.due(Checks.word(x, "" + (char) ('a' + n - 1)), 0);
    }
  }

  @Edge(promise = 9, says = "another length")
  static void anEmptyTapeIsNoWord(Checks c) {
    NearWords x = new NearWords();
    c.none(x.word());
    c.due(x.count(0), 0);
    x = Checks.withWords("a");
    c.none(x.word());
    c.due(x.count(0), 1);
  }

  @Edge(promise = 9, says = "another length")
  static void moreThanSevenLettersAreNoWord(Checks c) {
    for (int length = 8; length <= 40; length++) {
      NearWords x = new NearWords();
      c.none(Checks.word(x, "a".repeat(length)));
      c.due(x.count(0), 0);
      c.none(x.count(5));
    }
  }

  @Edge(promise = 9, says = "another length")
  static void anotherLengthThanTheFirstWordsIsNone(Checks c) {
    for (int length = 1; length <= 7; length++) {
      NearWords x = Checks.withWords("a".repeat(length));
      String before = Checks.stateOf(x);
      for (int other = 0; other <= 9; other++) {
        if (other != length) {
          c.none(Checks.word(x, "b".repeat(other)));
        }
      }
      c.due(Checks.stateOf(x), before);
      c.due(Checks.word(x, "b".repeat(length)), 1);
    }
  }

  @Edge(promise = 9, says = "another length")
  static void aRefusedFirstWordSetsNoLength(Checks c) {
    NearWords x = new NearWords();
    Checks.word(x, "abe");
    c.none(x.count(5));
    c.due(Checks.word(x, "ab"), 0);
    c.due(x.count(5), 2);
  }

  @Edge(promise = 9, says = "eight are there")
  static void theEighthWordIsTheLast(Checks c) {
    NearWords x = eightWords();
    c.due(x.count(0), 8);
    c.due(wordAt(x, 7), "bd");
    String before = Checks.stateOf(x);
    c.none(Checks.word(x, "cc"));
    c.none(Checks.word(x, "aa"));
    c.due(Checks.stateOf(x), before);
    c.due(x.within(2), 16);
  }

  @Edge(promise = 9, says = "eight are there")
  static void wordsOfAnyPartCountAmongTheEight(Checks c) {
    NearWords x = eightWords();
    for (int w = 0; w < 8; w++) {
      x.part(w, w % 2 * 2);
    }
    c.none(Checks.word(x, "cc"));
    c.due(x.count(0), 8);
  }

  @Edge(promise = 9, says = "eight are there")
  static void fiveTextsLeaveRoomForWords(Checks c) {
    c.due(Checks.word(fiveTexts(), "abc"), 0);
  }

  @Edge(promise = 10, says = "The TAPE (empty then, in any case) is a TEXT: its number.")
  static void textsAreNumberedAsTheyCome(Checks c) {
    NearWords x = new NearWords();
    c.due(Checks.text(x, "ab"), 0);
    c.due(x.count(8), 0);
    c.due(Checks.text(x, "cdc"), 1);
    c.due(x.count(8), 0);
    c.due(x.count(10), 2);
    c.due(x.count(11), 3);
  }

  @Edge(promise = 10, says = "is a TEXT")
  static void oneLetterIsTheShortestText(Checks c) {
    NearWords x = new NearWords();
    c.due(Checks.text(x, "d"), 0);
    c.due(x.count(10), 1);
    c.due(Checks.motifOf(x, 1), "d");
  }

  @Edge(promise = 10, says = "is a TEXT")
  static void twentyFourLettersAreTheLongestText(Checks c) {
    NearWords x = new NearWords();
    c.due(Checks.text(x, TWENTY_FOUR), 0);
    c.due(x.count(10), 24);
  }

  @Edge(promise = 10, says = "(empty then, in any case)")
  static void theTapeIsEmptyWhateverTextAnswers(Checks c) {
    for (String row : new String[] {"abc", "abe", "a".repeat(25), "e".repeat(40)}) {
      NearWords x = new NearWords();
      Checks.tape(x, row);
      x.text();
      c.due(x.count(8), 0);
      c.none(x.end(1));
    }
    NearWords x = fiveTexts();
    Checks.tape(x, "aa");
    c.none(x.text());
    c.due(x.count(8), 0);
  }

  @Edge(promise = 10, says = "NONE: other bytes")
  static void onlyLettersMakeAText(Checks c) {
    for (int sign = 0; sign < 256; sign++) {
      NearWords x = new NearWords();
      x.feed(sign << 24, 0, 0, 0, 0);
      x.end(1);
      c.due(x.text(), sign >= 'a' && sign <= 'd' ? 0 : NearWords.NONE);
    }
  }

  @Edge(promise = 10, says = "other bytes")
  static void anotherByteAtAnyPlaceMakesNoText(Checks c) {
    for (int place = 0; place < 24; place++) {
      for (char sign : new char[] {'`', 'e', 'A', ' ', 0, 255}) {
        StringBuilder row = new StringBuilder(TWENTY_FOUR);
        row.setCharAt(place, sign);
        NearWords x = new NearWords();
        c.none(Checks.text(x, row.toString()));
        c.due(x.count(3), 0);
      }
    }
  }

  @Edge(promise = 10, says = "other bytes")
  static void theLettersThatCountMakeAText(Checks c) {
    for (int n = 2; n <= 4; n++) {
      NearWords x = new NearWords();
      x.letters(n);
      c.none(Checks.text(x, "a" + (char) ('a' + n)));
      c.due(Checks.text(x, "a" + (char) ('a' + n - 1)), 0);
    }
  }

  @Edge(promise = 10, says = "no such length")
  static void anEmptyTapeIsNoText(Checks c) {
    NearWords x = new NearWords();
    c.none(x.text());
    c.due(x.count(3), 0);
    c.none(x.count(10));
  }

  @Edge(promise = 10, says = "no such length")
  static void moreThanTwentyFourLettersAreNoText(Checks c) {
    for (int length = 25; length <= 40; length++) {
      NearWords x = new NearWords();
      c.none(Checks.text(x, "a".repeat(length)));
      c.due(x.count(3), 0);
    }
  }

  @Edge(promise = 10, says = "no such length")
  static void textsMayHaveUnlikeLengths(Checks c) {
    NearWords x = Checks.withWords("abc");
    int[] lengths = {24, 1, 8, 3, 23};
    for (int t = 0; t < 5; t++) {
      c.due(Checks.text(x, TWENTY_FOUR.substring(0, lengths[t])), t);
    }
    for (int t = 0; t < 5; t++) {
      c.due(x.count(10 + t), lengths[t]);
    }
  }

  @Edge(promise = 10, says = "five are there")
  static void theFifthTextIsTheLast(Checks c) {
    NearWords x = fiveTexts();
    c.due(x.count(3), 5);
    c.due(x.motif(2), 1);
    String before = Checks.stateOf(x);
    c.none(Checks.text(x, "dd"));
    c.none(Checks.text(x, "a"));
    c.due(Checks.stateOf(x), before);
    c.due(x.motif(2), 1);
    c.none(x.count(15));
  }

  @Edge(promise = 10, says = "five are there")
  static void eightWordsLeaveRoomForTexts(Checks c) {
    NearWords x = eightWords();
    for (int t = 0; t < 5; t++) {
      c.due(Checks.text(x, "abc"), t);
    }
  }

  @Edge(promise = 11, says = "The PART of a WORD: 0 ASIDE, 1 NEAR, 2 FAR.")
  static void eachWordHasAPartOfItsOwn(Checks c) {
    NearWords x = eightWords();
    for (int part = 2; part >= 0; part--) {
      c.yes(x.part(0, part));
      c.yes(x.part(7, 2 - part));
      c.due(x.of(0, 0), part);
      c.due(x.of(7, 0), 2 - part);
      c.due(x.of(1, 0), 1);
      c.due(x.of(6, 0), 1);
    }
  }

  @Edge(promise = 11, says = "0 ASIDE")
  static void aWordAsideCountsForNothing(Checks c) {
    NearWords x = Checks.withWords("aa", "bb");
    c.yes(x.part(1, 0));
    c.due(x.count(1), 1);
    c.due(x.count(2), 0);
    x.gap(1);
    c.due(x.within(63), 16);
    c.due(x.centre(), 0);
  }

  @Edge(promise = 11, says = "1 NEAR")
  static void aWordMayBecomeNearAgain(Checks c) {
    NearWords x = Checks.withWords("aa", "bb");
    x.part(1, 2);
    c.yes(x.part(1, 1));
    c.due(x.count(1), 2);
    c.due(x.centre(), 1);
  }

  @Edge(promise = 11, says = "2 FAR")
  static void aWordMayBecomeFar(Checks c) {
    NearWords x = Checks.withWords("aa", "bb");
    c.yes(x.part(1, 2));
    c.due(x.count(1), 1);
    c.due(x.count(2), 1);
    x.gap(1);
    c.due(x.within(63), 15);
  }

  @Edge(promise = 11, says = "False: no such ones.")
  static void wordsThatAreNotThereHaveNoPart(Checks c) {
    NearWords x = new NearWords();
    c.no(x.part(0, 1));
    c.no(x.part(-1, 0));
    for (int size = 1; size <= 8; size++) {
      Checks.word(x, "ab");
      for (int bad : Checks.outside(0, size - 1)) {
        c.no(x.part(bad, 0));
      }
      c.due(x.count(1), size);
    }
  }

  @Edge(promise = 11, says = "False: no such ones.")
  static void partsThatAreNoneAreRefused(Checks c) {
    NearWords x = Checks.withWords("aa", "bb", "cc");
    x.part(1, 2);
    x.part(2, 0);
    for (int bad : Checks.outside(0, 2)) {
      for (int w = 0; w < 3; w++) {
        c.no(x.part(w, bad));
      }
    }
    c.due(x.of(0, 0), 1);
    c.due(x.of(1, 0), 2);
    c.due(x.of(2, 0), 0);
  }
}
