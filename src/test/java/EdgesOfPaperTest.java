/** The edges that promises 1 to 13 and the terms ahead of them name: the paper. */
public final class EdgesOfPaperTest extends Trial {
  private static final String[] SPANS = {"F", "H", "Y"};
  private static final String TEN_SHORT = "E90E90E90E90E90E90E90E90E90E90";
  /** 64 bytes, ten RULES, the last byte a HOUSE. */
  private static final String TEN_LONG = "F900000F900000F900000F900000F900000F900000F900000W96100W96100E81";

  static void term00_refusalsAreNumbered() {
    due("UNKNOWN", TwoHousesOneChild.UNKNOWN, -1);
    due("OUTSIDE", TwoHousesOneChild.OUTSIDE, -2);
    due("STATE", TwoHousesOneChild.STATE, -3);
    due("FULL", TwoHousesOneChild.FULL, -4);
    due("NONE", TwoHousesOneChild.NONE, -9);
  }

  static void term00_theLastOf512CallsAnswersToo() {
    Child x = new Child();
    x.put(1, 1);
    while (x.calls() < 510) due("late", x.late(1, 99), NONE);
    due("call 511", x.fines(1, false), 5090);
    due("call 512", x.fines(1, true), 509);
  }

  static void term00_theBusyOneIsUnlikeANewOne() {
    Child x = new Child();
    busy(x);
    same("fines", finesOf(x), " 2 1 15 4");
    due("year", x.year(1), 8);
    due("wishes", x.wish(5, 1, 1), 4032);
    due("text", x.count(0), 16);
    due("rules", x.count(1), 4);
    due("wants", x.count(2), 3);
    due("slot 1", x.again(1), 3);
    due("slot 0", x.again(0), 3);
  }

  // ---- promise 1

  static void promise01_noRules() {
    Child x = new Child();
    due("rules", x.count(1), 0);
    same("whose", whoseOf(x), "2".repeat(56));
    due("says", x.says(0, 0), UNKNOWN);
  }

  static void promise01_allNightsAtHouse0() {
    same("plan", planOf(new Child()), "0".repeat(56));
  }

  static void promise01_theRestIsAsAtFirst() {
    Child x = new Child();
    due("bytes", x.count(0), 0);
    due("wants", x.count(2), 0);
    due("year", x.year(1), 1);
    due("wishes", x.wish(5, 1, 1), 5011);
    same("fines", finesOf(x), " 0 0 0 0");
    for (int slot = 0; slot <= 1; slot++) due("again", x.again(slot), STATE);
  }

  static void promise01_objectsHaveNothingInCommon() {
    Child x = new Child();
    busy(x);
    due("rules", new Child().count(1), 0);
    due("slot", new Child().again(0), STATE);
  }

  // ---- promise 2

  static void promise02_nIs1To8() {
    for (int n = 1; n <= 8; n++) due("write of " + n, new Child().write(n, 0), n);
    for (int n : beyond(1, 8)) refused("write of " + n, x -> x.write(n, 0x453030), OUTSIDE);
  }

  static void promise02_theLowestBytesTheHighestFirst() {
    String paper = "W26431F110120E31";
    for (int n = 1; n <= 8; n++) {
      Child x = new Child();
      for (int from = 0; from < paper.length(); from += n) {
        int many = Math.min(n, paper.length() - from);
        long v = 0x5757575757575757L;
        for (int i = 0; i < many; i++) v = v << 8 | paper.charAt(from + i);
        due("write of " + many, x.write(many, v), from + many);
      }
      due("rules by " + n, x.paper(), 3);
      due("says by " + n, x.says(0, 27), 1);
      due("says by " + n, x.says(0, 26), NONE);
      due("says by " + n, x.says(1, 10), 0);
      due("says by " + n, x.says(1, 13), NONE);
      due("words by " + n, x.words(10), 2);
      due("words by " + n, x.words(27), 1);
      due("words by " + n, x.words(55), 1);
      due("words by " + n, x.words(54), 4);
    }
  }

  static void promise02_anyBytesCome() {
    due("write of the least", new Child().write(8, Long.MIN_VALUE), 8);
    due("write of the greatest", new Child().write(8, Long.MAX_VALUE), 8);
    Child x = new Child();
    due("write of 0", x.write(1, 0), 1);
    due("fault", x.fault(), 0);
    due("write of 255", x.write(1, -1), 2);
    due("length", x.count(0), 2);
  }

  static void promise02_aTextOf64AtMost() {
    for (int n = 1; n <= 8; n++) {
      Child x = new Child();
      tell(x, "E".repeat(64 - n));
      due("write of " + n + " to 64", x.write(n, 0), 64);
      int many = n;
      leaves("write of " + n + " to 65", y -> tell(y, "E".repeat(65 - many)), y -> y.write(many, 0), FULL);
      leaves("write of " + n + " behind 64", y -> tell(y, TEN_LONG), y -> y.write(many, 0), FULL);
    }
  }

  static void promise02_whatIsFullLeavesTheTextAsItWas() {
    leaves("write to 65", x -> tell(x, TEN_LONG.substring(0, 61)), x -> x.write(4, 0x4538313FL), FULL);
    Child x = new Child();
    tell(x, TEN_LONG.substring(0, 60));
    due("write to 65", x.write(5, 0), FULL);
    due("write to 64", x.write(4, '0' << 24 | 'E' << 16 | '8' << 8 | '1'), 64);
    due("rules", x.paper(), 10);
    due("whose", x.whose(1), 1);
  }

  static void promise02_outsideIsNamedBeforeFull() {
    for (int n : beyond(1, 8)) leaves("write of " + n + " behind 64", x -> tell(x, TEN_LONG), x -> x.write(n, 0), OUTSIDE);
  }

  // ---- promise 3

  static void promise03_howLongItWas() {
    Child x = new Child();
    due("wipe of nothing", x.wipe(), 0);
    tell(x, "E");
    due("wipe of 1", x.wipe(), 1);
    tell(x, TEN_LONG);
    due("wipe of 64", x.wipe(), 64);
    due("wipe once more", x.wipe(), 0);
    due("length", x.count(0), 0);
  }

  static void promise03_a64thByteComesAgain() {
    Child x = new Child();
    tell(x, TEN_LONG);
    x.wipe();
    tell(x, TEN_LONG);
    due("length", x.count(0), 64);
    due("one more", x.write(1, 0), FULL);
  }

  static void promise03_nothingOfItStays() {
    Child x = new Child();
    tell(x, "E00?");
    x.wipe();
    due("fault of nothing", x.fault(), NONE);
    due("paper of nothing", x.paper(), 0);
    tell(x, "E0");
    due("fault", x.fault(), 2);
  }

  static void promise03_thePaperStays() {
    Child x = of("E01");
    x.wipe();
    due("rules", x.count(1), 1);
    due("whose", x.whose(55), 1);
  }

  // ---- promise 4

  private static void faultOf(String text, int want) {
    Child x = new Child();
    tell(x, text);
    due("fault of " + text, x.fault(), want);
  }

  /** Of all bytes only these can come behind a start; with them a RULE is at its end, or it is not. */
  private static void goesOn(String start, String with, boolean ends) {
    for (int b = 0; b < 256; b++) {
      boolean fits = with.indexOf((char) b) >= 0;
      faultOf(start + (char) b, !fits ? start.length() : ends ? NONE : start.length() + 1);
    }
  }

  static void promise04_letters() {
    goesOn("", "WFHYE", false);
    goesOn("E00", "WFHYE", false);
  }

  static void promise04_ranks0To9() {
    for (String letter : new String[] {"W", "F", "H", "Y", "E"}) goesOn(letter, "0123456789", false);
  }

  static void promise04_weekdays0To6() {
    goesOn("W0", "0123456", false);
    goesOn("W9", "0123456", false);
  }

  static void promise04_n1To4() {
    goesOn("W00", "1234", false);
    goesOn("W06", "1234", false);
  }

  static void promise04_kLessThanN() {
    goesOn("W001", "0", false);
    goesOn("W002", "01", false);
    goesOn("W003", "012", false);
    goesOn("W004", "0123", false);
  }

  static void promise04_houses0And1() {
    goesOn("W0643", "01", true);
    goesOn("W0010", "01", true);
    goesOn("E0", "01", true);
    for (String letter : SPANS) {
      goesOn(letter + "00000", "01", true);
      goesOn(letter + "95555", "01", true);
    }
  }

  static void promise04_aaTo55() {
    for (String letter : SPANS) {
      goesOn(letter + "0", "012345", false);
      goesOn(letter + "00", "0123456789", false);
      goesOn(letter + "04", "0123456789", false);
      goesOn(letter + "05", "012345", false);
    }
  }

  static void promise04_bbTo55() {
    for (String letter : SPANS) {
      goesOn(letter + "000", "012345", false);
      goesOn(letter + "0000", "0123456789", false);
      goesOn(letter + "0005", "012345", false);
      goesOn(letter + "0495", "012345", false);
    }
  }

  static void promise04_bbNoLess() {
    for (String letter : SPANS) {
      goesOn(letter + "009", "012345", false);
      goesOn(letter + "010", "12345", false);
      goesOn(letter + "049", "45", false);
      goesOn(letter + "050", "5", false);
      goesOn(letter + "055", "5", false);
      goesOn(letter + "0202", "0123456789", false);
      goesOn(letter + "0252", "56789", false);
      goesOn(letter + "0253", "0123456789", false);
      goesOn(letter + "0494", "9", false);
      goesOn(letter + "0535", "345", false);
      goesOn(letter + "0555", "5", false);
    }
  }

  static void promise04_allSpans() {
    for (String letter : SPANS) for (int a = 0; a <= 99; a++) for (int b = 0; b <= 99; b++) {
      int want = a / 10 > 5 ? 2 : a > 55 ? 3 : b / 10 < a / 10 || b / 10 > 5 ? 4 : b < a || b > 55 ? 5 : NONE;
      faultOf(String.format("%s0%02d%02d0", letter, a, b), want);
    }
  }

  static void promise04_tenRulesAtMost() {
    faultOf(TEN_SHORT.substring(3), NONE);
    faultOf(TEN_SHORT, NONE);
    for (int b = 0; b < 256; b++) faultOf(TEN_SHORT + (char) b, 30);
    faultOf(TEN_SHORT + "E90", 30);
    faultOf(TEN_LONG, NONE);
  }

  static void promise04_aFaultInTheTenthRule() {
    faultOf(TEN_SHORT.substring(3) + "E92", 29);
    faultOf(TEN_SHORT.substring(3) + "e90", 27);
    faultOf(TEN_SHORT.substring(3) + "E9", 29);
  }

  static void promise04_onlyNotAtItsEnd() {
    for (String rule : new String[] {"W06431", "F055551", "H000000", "Y900550", "E91"})
      for (int bytes = 1; bytes < rule.length(); bytes++) {
        faultOf(rule.substring(0, bytes), bytes);
        faultOf("E00" + rule.substring(0, bytes), 3 + bytes);
      }
  }

  static void promise04_anEmptyTextIsAPaper() {
    faultOf("", NONE);
  }

  static void promise04_itsLengthIsSetAside() {
    String nine = "F000550".repeat(9);
    faultOf(nine, NONE);
    faultOf(nine + "F", 64);
    faultOf(nine + "E", 64);
    faultOf(nine + "X", 63);
    String eight = "F000550".repeat(8) + "E00";
    faultOf(eight + "W0643", 64);
    faultOf(eight + "W0644", 63);
    faultOf(eight + "F0555", 64);
    faultOf(eight + "F0556", 63);
    faultOf(eight + "F0554", 63);
  }

  static void promise04_theFirstOfSeveral() {
    faultOf("E02E02", 2);
    faultOf("??", 0);
    faultOf("F060???", 2);
    faultOf("W07", 2);
  }

  static void promise04_changesNothing() {
    leaves("fault", Trial::busy, Child::fault, NONE);
    leaves("fault of an unfinished one", x -> tell(x, "E00E"), Child::fault, 4);
  }

  // ---- promise 5

  static void promise05_aPaperWithoutRules() {
    Child x = of("E01");
    x.wipe();
    due("paper", x.paper(), 0);
    same("whose", whoseOf(x), "2".repeat(56));
    due("rules", x.count(1), 0);
  }

  static void promise05_tenRules() {
    due("paper of ten", of(TEN_SHORT).count(1), 10);
    Child x = of(TEN_LONG);
    due("paper of ten in 64 bytes", x.count(1), 10);
    due("the last byte is read", x.says(9, 55), 1);
    due("and goes ahead", x.words(55), 512);
  }

  static void promise05_elevenAreRefused() {
    leaves("paper of eleven", x -> tell(x, TEN_SHORT + "E90"), Child::paper, STATE);
    leaves("paper of eleven", x -> { busy(x); x.wipe(); tell(x, TEN_SHORT + "E90"); }, Child::paper, STATE);
  }

  static void promise05_aFaultIsRefused() {
    for (String text : new String[] {"?", "E", "E9", "E02", "E00W06", "F055541", "W00441", "E01?", "E01\0"}) {
      leaves("paper of " + text, x -> tell(x, text), Child::paper, STATE);
      leaves("paper of " + text, x -> { busy(x); x.wipe(); tell(x, text); }, Child::paper, STATE);
    }
  }

  static void promise05_theTextStays() {
    Child x = new Child();
    tell(x, "E00");
    due("paper", x.paper(), 1);
    due("length", x.count(0), 3);
    tell(x, "E01");
    due("the paper is as it was", x.count(1), 1);
    due("paper", x.paper(), 2);
    due("whose", x.whose(0), 3);
  }

  static void promise05_rulesAreNumberedAsTheyAreTold() {
    Child x = of("F900000E31F101011W00101");
    due("rule 0", x.says(0, 1), NONE);
    due("rule 1", x.says(1, 1), 1);
    due("rule 2", x.says(2, 1), 1);
    due("rule 3", x.says(3, 7), 1);
    due("rule 3", x.says(3, 1), NONE);
  }

  static void promise05_aPaperOfFewerLeavesNoneOfTheOldRules() {
    Child x = of(TEN_LONG);
    give(x, "F900001");
    due("rule 1", x.says(1, 0), UNKNOWN);
    same("whose", whoseOf(x), "1" + "2".repeat(55));
    due("words", x.words(55), 0);
  }

  // ---- promise 6

  static void promise06_1AtFirst() {
    due("year", new Child().year(5), 1);
  }

  static void promise06_0To99() {
    Child x = of("Y000551");
    due("year 0", x.year(0), 1);
    due("0 is even", x.whose(0), 0);
    due("year 99", x.year(99), 0);
    due("99 is odd", x.whose(0), 1);
    due("year 98", x.year(98), 99);
    due("98 is even", x.whose(0), 0);
    due("year 1", x.year(1), 98);
    due("1 is odd", x.whose(0), 1);
    for (int year : beyond(0, 99)) refused("year " + year, y -> y.year(year), OUTSIDE);
  }

  // ---- promise 7

  static void promise07_nights0To55() {
    Child x = of("F000001F055550");
    due("whose 0", x.whose(0), 1);
    due("whose 55", x.whose(55), 0);
    for (int night : beyond(0, 55)) refused("whose " + night, y -> y.whose(night), UNKNOWN);
  }

  private static void tellsOf(String paper, String whose) {
    same("whose by " + paper, whoseOf(of(paper)), whose);
  }

  private static String row(int from, int to, String told) {
    return "2".repeat(from) + told + "2".repeat(55 - to);
  }

  static void promise07_weekdaysAndWeeks() {
    tellsOf("W00101", "1222222".repeat(8));
    tellsOf("W06100", "2222220".repeat(8));
    tellsOf("W00201", ("1222222" + "2222222").repeat(4));
    tellsOf("W06211", ("2222222" + "2222221").repeat(4));
    tellsOf("W03300", ("2220222" + "2".repeat(14)).repeat(2) + "2220222" + "2222222");
    tellsOf("W03320", ("2".repeat(14) + "2220222").repeat(2) + "2".repeat(14));
    tellsOf("W05401", ("2222212" + "2".repeat(21)).repeat(2));
    tellsOf("W06431", ("2".repeat(21) + "2222221").repeat(2));
  }

  static void promise07_spansFromAndTo() {
    tellsOf("F000550", "0".repeat(56));
    tellsOf("F000001", row(0, 0, "1"));
    tellsOf("F055551", row(55, 55, "1"));
    tellsOf("F009100", row(9, 10, "00"));
    tellsOf("F019301", row(19, 30, "1".repeat(12)));
    tellsOf("F001541", "2" + "1".repeat(54) + "2");
  }

  static void promise07_halvesTheGreaterFirst() {
    tellsOf("H000001", row(0, 0, "1"));
    tellsOf("H055550", row(55, 55, "0"));
    tellsOf("H010111", row(10, 11, "10"));
    tellsOf("H010121", row(10, 12, "110"));
    tellsOf("H010120", row(10, 12, "001"));
    tellsOf("H000551", "1".repeat(28) + "0".repeat(28));
    tellsOf("H001550", "2" + "0".repeat(28) + "1".repeat(27));
  }

  static void promise07_yearsOddAndEven() {
    Child x = of("Y010121Y020200");
    same("in 1", whoseOf(x), row(10, 20, "111" + "2222222" + "0"));
    x.year(2);
    same("in 2", whoseOf(x), row(10, 20, "000" + "2222222" + "1"));
    x.year(0);
    due("in 0", x.whose(10), 0);
    x.year(99);
    due("in 99", x.whose(10), 1);
  }

  static void promise07_allNights() {
    tellsOf("E00", "0".repeat(56));
    tellsOf("E91", "1".repeat(56));
  }

  static void promise07_theLeastRankGoesAhead() {
    tellsOf("E91E80", "0".repeat(56));
    tellsOf("E10E01", "1".repeat(56));
    tellsOf("E20E21E11", "1".repeat(56));
    tellsOf("E51F405060E61", "11111" + "00" + "1".repeat(49));
  }

  static void promise07_ranksToldFromTheLastToTheFirst() {
    StringBuilder paper = new StringBuilder();
    for (int rank = 8; rank >= 0; rank--) paper.append(String.format("F%d000%d%d", rank, rank, rank % 2));
    Child x = of(paper.toString());
    same("whose", whoseOf(x), row(0, 8, "010101010"));
    for (int n = 0; n <= 8; n++) due("words " + n, x.words(n), 1 << 8 - n);
  }

  static void promise07_ranksToldInAnyOrder() {
    for (int order = 0; order < 256; order++) {
      int[] ranks = {order & 3, order >> 2 & 3, order >> 4 & 3, order >> 6};
      StringBuilder paper = new StringBuilder();
      int least = 3, bits = 0;
      for (int rank : ranks) least = Math.min(least, rank);
      for (int rule = 0; rule < 4; rule++) {
        paper.append("E").append(ranks[rule] * 3).append(ranks[rule] == least ? 1 : 0);
        if (ranks[rule] == least) bits |= 1 << rule;
      }
      Child x = of(paper.toString());
      due("whose by " + paper, x.whose(7), 1);
      due("words by " + paper, x.words(7), bits);
    }
  }

  static void promise07_openAlikeOrFighting() {
    tellsOf("", "2".repeat(56));
    tellsOf("E00E00", "0".repeat(56));
    tellsOf("E00E01", "3".repeat(56));
    tellsOf("E91E91E91E91E91E91E91E91E91E90", "3".repeat(56));
    tellsOf("F000100F010201", "0".repeat(10) + "3" + "1".repeat(10) + "2".repeat(35));
  }

  // ---- promise 8

  static void promise08_nights0To55() {
    Child x = of("F000001F055550");
    due("words 0", x.words(0), 1);
    due("words 1", x.words(1), 0);
    due("words 54", x.words(54), 0);
    due("words 55", x.words(55), 2);
    for (int night : beyond(0, 55)) refused("words " + night, y -> y.words(night), UNKNOWN);
  }

  static void promise08_noneToTen() {
    due("words without rules", new Child().words(0), 0);
    due("words of ten", of(TEN_SHORT).words(55), 1023);
    due("words of the last", of(TEN_SHORT.substring(3) + "E81").words(0), 512);
    due("words of the first", of("E01" + TEN_SHORT.substring(3)).words(0), 1);
  }

  static void promise08_fightingOnesToo() {
    due("words", of("E10E11E20").words(7), 3);
  }

  // ---- promise 9

  static void promise09_rulesThatThereAre() {
    Child x = of("E90E91E90");
    due("rule 0", x.says(0, 0), 0);
    due("rule 2", x.says(2, 0), 0);
    for (int rule : beyond(0, 2)) leaves("says " + rule, y -> give(y, "E90E91E90"), y -> y.says(rule, 0), UNKNOWN);
    due("of ten the last", of(TEN_LONG).says(9, 0), 1);
    for (int rule : beyond(0, 9)) leaves("says " + rule, y -> give(y, TEN_LONG), y -> y.says(rule, 0), UNKNOWN);
    for (int rule : new int[] {-1, 0, 1, 9, 10}) leaves("says " + rule + " of none", Trial::fresh, y -> y.says(rule, 0), UNKNOWN);
  }

  static void promise09_nights0To55() {
    Child x = of("F000001F055550");
    due("at 0", x.says(0, 0), 1);
    due("at 55", x.says(1, 55), 0);
    for (int night : beyond(0, 55)) refused("says of " + night, y -> y.says(0, night), UNKNOWN);
  }

  static void promise09_whatItDoesNotTellOf() {
    Child x = of("F010190W06431");
    due("ahead", x.says(0, 9), NONE);
    due("from", x.says(0, 10), 0);
    due("to", x.says(0, 19), 0);
    due("behind", x.says(0, 20), NONE);
    due("in week 3", x.says(1, 27), 1);
    due("in week 7", x.says(1, 55), 1);
    due("in week 0", x.says(1, 6), NONE);
    due("weekday 5", x.says(1, 26), NONE);
  }

  static void promise09_whateverGoesAhead() {
    due("a later rank", of("E00E91").says(1, 5), 1);
  }

  // ---- promise 10

  static void promise10_what0To3() {
    Child x = of("F000090F009191F110190F119201");
    due("nights of 0", x.nights(0), 9);
    due("nights of 1", x.nights(1), 11);
    due("open", x.nights(2), 35);
    due("fighting", x.nights(3), 1);
    for (int what : beyond(0, 3)) refused("nights " + what, y -> y.nights(what), OUTSIDE);
  }

  static void promise10_noneAndAll() {
    String[] papers = {"E00", "E01", "", "E00E01"};
    for (int all = 0; all <= 3; all++) for (int what = 0; what <= 3; what++)
      due("nights of " + papers[all], of(papers[all]).nights(what), what == all ? 56 : 0);
  }

  // ---- promise 11

  static void promise11_what0To3() {
    Child x = of("F000090F009191F110190F119201");
    due("first of 0", x.night(0, 0), 0);
    due("first of 1", x.night(1, 0), 10);
    due("first open", x.night(2, 0), 21);
    due("first that fights", x.night(3, 0), 9);
    for (int what : beyond(0, 3)) {
      refused("night " + what, y -> y.night(what, 0), OUTSIDE);
      refused("night " + what, y -> y.night(what, -1), OUTSIDE);
    }
  }

  static void promise11_theLastAndNoneBehindIt() {
    Child x = of("F000090F009191F110190F119201");
    int[] many = {9, 11, 35, 1}, last = {8, 20, 55, 9};
    for (int what = 0; what <= 3; what++) {
      int of = what;
      due("last of " + what, x.night(what, many[what] - 1), last[what]);
      for (int i : beyond(0, many[what] - 1))
        leaves("night " + what + " " + i, y -> give(y, "F000090F009191F110190F119201"), y -> y.night(of, i), NONE);
    }
  }

  static void promise11_noneAndAll() {
    for (int i = 0; i < 56; i++) due("open " + i, new Child().night(2, i), i);
    due("open 56", new Child().night(2, 56), NONE);
    for (int what : new int[] {0, 1, 3}) due("night " + what, new Child().night(what, 0), NONE);
  }

  // ---- promises 12 and 13

  private static void mends(String paper, int rules, int changes) {
    Child x = of(paper);
    due("mend " + paper, x.mend(), rules);
    due("changes " + paper, x.changes(), changes);
    due("mend " + paper + " once more", x.mend(), rules);
  }

  static void promise12_nothingFights() {
    mends("", 0, 0);
    mends("E00", 0, 0);
    mends("E00E11", 0, 0);
    mends(TEN_SHORT, 0, 0);
    mends("F000270F028551", 0, 0);
  }

  static void promise12_oneNightFights() {
    mends("F000000F000551", 1, 0);
    mends("F055551F000550", 1, 0);
    mends("F000551F055550", 2, 0);
  }

  static void promise12_theFewestBeforeFewerChanges() {
    mends("F010200F010101F020201", 1, 9);
    mends("E01F010100F020200", 1, 54);
  }

  static void promise12_ofAsManyTheFewestChanges() {
    mends("F010200F020291", 2, 9);
    mends("F011200F020301", 1, 9);
    mends("F010200F020301", 1, 10);
  }

  static void promise12_ofLikeOnesTheLeastAsBits() {
    mends("E00E01", 1, 0);
    mends("E00E01E00E01", 5, 0);
    mends("E01E01E00E00", 3, 0);
  }

  static void promise12_tenRules() {
    mends("E90E91E90E91E90E91E90E91E90E91", 341, 0);
    mends("E91E90E90E90E90E90E90E90E90E90", 1, 0);
    mends("E90E90E90E90E90E90E90E90E90E91", 512, 0);
  }

  static void promise12_nineOfTenHaveToGo() {
    // each two of them FIGHT at some NIGHT, and each NIGHT FIGHTS
    mends("E00E01H000100H000120H000140H000160H000180H000200H000220H000240", 511, 0);
  }

  static void promise12_whatComesOutUnderIt() {
    // without RULE 0 NIGHT 4 FIGHTS by RULES 2 and 3
    mends("F004050F005091F104041F104040", 2, 4);
    // without RULE 1 alone NIGHT 6 does by RULES 4 and 5
    mends("F004050F005061F104041F104040F106061F106060", 5, 0);
  }

  static void promise12_changesNothing() {
    leaves("mend", x -> give(x, "E00E01"), Child::mend, 1);
    leaves("mend", Trial::fresh, Child::mend, 0);
  }

  static void promise12_byTheYear() {
    Child x = of("Y000000F000000");
    due("in an odd one", x.mend(), 0);
    x.year(2);
    due("in an even one", x.mend(), 1);
  }

  static void promise13_noneToAll() {
    mends("E01E00", 1, 0);
    mends("F001551F000001F000000", 2, 0);
    mends("E00F000001F000001", 1, 55);
    mends("F000540F054551", 2, 1);
    mends("F054551F000540", 1, 1);
  }

  static void promise13_whatFightsNowIsNotCounted() {
    mends("F010101F010100", 1, 0);
  }

  static void promise13_openIsOtherwiseToo() {
    mends("F010101F010200F020201", 2, 9);
  }

  static void promise13_changesNothing() {
    leaves("changes", x -> give(x, "F010200F020301"), Child::changes, 10);
  }

  public static void main(String[] args) {
    run(EdgesOfPaperTest.class, 1, 13);
  }
}
