/** The edges that promises 14 to 24 and the terms ahead of them name: plans, wishes. */
public final class EdgesOfPlansTest extends Trial {
  private static final String ZEROS = "0".repeat(56);
  private static final String ONES = "1".repeat(56);
  private static final String TURNS = "01".repeat(28);

  private static Child planned(String houses) {
    Child x = new Child();
    plan(x, houses);
    return x;
  }

  // ---- promise 14

  static void promise14_nights0To55() {
    for (int n = 0; n <= 55; n++) {
      Child x = new Child();
      due("put " + n, x.put(n, 1), 0);
      same("plan", planOf(x), "0".repeat(n) + "1" + "0".repeat(55 - n));
    }
    for (int night : beyond(0, 55)) {
      refused("put " + night + " at 1", x -> x.put(night, 1), UNKNOWN);
      refused("put " + night + " at 0", x -> x.put(night, 0), UNKNOWN);
    }
  }

  static void promise14_houses0And1() {
    Child x = new Child();
    due("put at 0", x.put(3, 0), 0);
    due("put at 1", x.put(3, 1), 0);
    due("put at 1 again", x.put(3, 1), 1);
    due("put at 0", x.put(3, 0), 1);
    due("put at 0 again", x.put(3, 0), 0);
    for (int house : beyond(0, 1)) {
      refused("put 0 at " + house, y -> y.put(0, house), UNKNOWN);
      refused("put 55 at " + house, y -> y.put(55, house), UNKNOWN);
    }
  }

  static void promise14_bothUnknown() {
    refused("put 56 at 2", x -> x.put(56, 2), UNKNOWN);
    refused("put -1 at -1", x -> x.put(-1, -1), UNKNOWN);
  }

  static void promise14_whateverIsDecided() {
    Child x = of("E00");
    due("put", x.put(7, 1), 0);
    due("at", x.at(7), 1);
    due("whose", x.whose(7), 0);
  }

  // ---- promise 15

  static void promise15_nights0To55() {
    Child x = planned("1" + "0".repeat(54) + "1");
    due("at 0", x.at(0), 1);
    due("at 1", x.at(1), 0);
    due("at 54", x.at(54), 0);
    due("at 55", x.at(55), 1);
    for (int night : beyond(0, 55)) refused("at " + night, y -> y.at(night), UNKNOWN);
  }

  static void promise15_changesNothing() {
    onlyAsks("at", x -> x.at(6));
  }

  // ---- promise 16

  static void promise16_theFirstNightAndTheLast() {
    Child x = of("E01");
    due("judge", x.judge(), 0);
    plan(x, "1".repeat(55));
    due("judge", x.judge(), 55);
    x.put(55, 1);
    due("judge", x.judge(), NONE);
    x.put(54, 0);
    due("judge", x.judge(), 54);
    x.put(0, 0);
    due("of two the first", x.judge(), 0);
  }

  static void promise16_none() {
    due("without rules", new Child().judge(), NONE);
    due("as decided", of("E00").judge(), NONE);
  }

  static void promise16_openAndFightingNightsAreFree() {
    Child x = of("F010190F110191F020200F020201");
    plan(x, "1".repeat(10) + "0".repeat(10) + "1".repeat(36));
    due("judge", x.judge(), NONE);
    x.put(19, 1);
    due("judge", x.judge(), 19);
  }

  static void promise16_byTheYear() {
    Child x = of("Y000001");
    due("in an odd one", x.judge(), 0);
    x.year(2);
    due("in an even one", x.judge(), NONE);
    onlyAsks("judge", Child::judge);
  }

  // ---- promise 17

  private static void countsOf(String houses, int... want) {
    Child x = planned(houses);
    for (int what = 0; what <= 4; what++) due("counts " + what + " of " + houses, x.counts(what), want[what]);
  }

  static void promise17_what0To4() {
    countsOf("110111" + "0".repeat(50), 51, 5, 3, 50, 3);
    for (int what : beyond(0, 4)) refused("counts " + what, x -> x.counts(what), OUTSIDE);
    for (int what = 0; what <= 4; what++) {
      int of = what;
      onlyAsks("counts " + what, x -> x.counts(of));
    }
  }

  static void promise17_noneAndAll() {
    countsOf(ZEROS, 56, 0, 0, 56, 0);
    countsOf(ONES, 0, 56, 0, 0, 56);
    countsOf(TURNS, 28, 28, 55, 1, 1);
  }

  static void promise17_night0IsNoHanding() {
    countsOf("1" + "0".repeat(55), 55, 1, 1, 55, 1);
    countsOf("0" + "1".repeat(55), 1, 55, 1, 1, 55);
    countsOf("0".repeat(55) + "1", 55, 1, 1, 55, 1);
    countsOf("1" + "0".repeat(54) + "1", 54, 2, 2, 54, 1);
  }

  static void promise17_runsFromTheFirstAndToTheLast() {
    countsOf("000" + "1".repeat(53), 3, 53, 1, 3, 53);
    countsOf("1".repeat(53) + "000", 3, 53, 1, 3, 53);
    countsOf("0001" + "0".repeat(48) + "1000", 54, 2, 4, 48, 1);
    countsOf("1110" + "1".repeat(48) + "0111", 2, 54, 4, 1, 48);
  }

  // ---- promise 18

  static void promise18_atFirst() {
    due("wish", new Child().wish(14, 9, 9), 5011);
  }

  static void promise18_leastAndMost() {
    Child x = new Child();
    x.wish(1, 0, 0);
    due("wish", x.wish(14, 9, 9), 1000);
    due("wish", x.wish(1, 9, 0), 14099);
    due("wish", x.wish(14, 0, 9), 1090);
    due("wish", x.wish(5, 1, 1), 14009);
  }

  static void promise18_mIs1To14() {
    for (int m : beyond(1, 14)) refused("wish m " + m, x -> x.wish(m, 2, 3), OUTSIDE);
  }

  static void promise18_aIs0To9() {
    for (int a : beyond(0, 9)) refused("wish a " + a, x -> x.wish(2, a, 3), OUTSIDE);
  }

  static void promise18_jIs0To9() {
    for (int j : beyond(0, 9)) refused("wish j " + j, x -> x.wish(2, 3, j), OUTSIDE);
  }

  static void promise18_severalOutside() {
    refused("wish", x -> x.wish(0, 10, -1), OUTSIDE);
    refused("wish", x -> x.wish(15, -1, 10), OUTSIDE);
  }

  static void promise18_wantsStay() {
    Child x = new Child();
    x.want(0, 1, 7);
    x.wish(14, 0, 0);
    due("wants", x.count(2), 1);
    due("cost", x.cost(), 7);
  }

  // ---- promise 19

  static void promise19_nights0To55() {
    Child x = new Child();
    x.wish(14, 0, 0);
    due("want 0", x.want(0, 1, 2), 0);
    due("want 55", x.want(55, 1, 3), 1);
    due("cost", x.cost(), 5);
    x.put(0, 1);
    due("cost", x.cost(), 3);
    x.put(55, 1);
    due("cost", x.cost(), 0);
    for (int night : beyond(0, 55)) refused("want " + night, y -> y.want(night, 1, 5), UNKNOWN);
  }

  static void promise19_houses0And1() {
    Child x = new Child();
    x.wish(14, 0, 0);
    due("want at 0", x.want(9, 0, 4), 0);
    due("cost", x.cost(), 0);
    due("want at 1", x.want(9, 1, 3), 1);
    due("cost", x.cost(), 3);
    x.put(9, 1);
    due("cost", x.cost(), 4);
    for (int house : beyond(0, 1)) refused("want at " + house, y -> y.want(0, house, 5), UNKNOWN);
  }

  static void promise19_weights1To9() {
    Child x = new Child();
    x.wish(14, 0, 0);
    due("weight 1", x.want(9, 1, 1), 0);
    due("cost", x.cost(), 1);
    due("weight 9", x.want(9, 1, 9), 1);
    due("cost", x.cost(), 10);
    for (int weight : beyond(1, 9)) refused("weight " + weight, y -> y.want(0, 1, weight), OUTSIDE);
  }

  private static void twelve(Child x) {
    x.wish(14, 0, 0);
    for (int i = 0; i < 12; i++) due("want", x.want(i * 5, 1, 9), i);
  }

  static void promise19_twelveAtMost() {
    Child x = new Child();
    twelve(x);
    due("wants", x.count(2), 12);
    due("cost", x.cost(), 108);
    leaves("a thirteenth", EdgesOfPlansTest::twelve, y -> y.want(0, 1, 1), FULL);
    leaves("a thirteenth at 0", EdgesOfPlansTest::twelve, y -> y.want(55, 0, 9), FULL);
  }

  static void promise19_theFirstRefusalNamed() {
    refused("want 56 of weight 0", x -> x.want(56, 0, 0), UNKNOWN);
    refused("want at 2 of weight 10", x -> x.want(0, 2, 10), UNKNOWN);
    leaves("want 56 behind twelve", EdgesOfPlansTest::twelve, x -> x.want(56, 0, 1), UNKNOWN);
    leaves("want at -1 behind twelve", EdgesOfPlansTest::twelve, x -> x.want(0, -1, 1), UNKNOWN);
    leaves("weight 0 behind twelve", EdgesOfPlansTest::twelve, x -> x.want(0, 0, 0), OUTSIDE);
    leaves("weight 10 behind twelve", EdgesOfPlansTest::twelve, x -> x.want(0, 0, 10), OUTSIDE);
    leaves("all wrong behind twelve", EdgesOfPlansTest::twelve, x -> x.want(-1, 2, 0), UNKNOWN);
  }

  // ---- promise 20

  static void promise20_noneToTwelve() {
    Child x = new Child();
    due("unwant of none", x.unwant(), 0);
    x.want(0, 1, 1);
    due("unwant of one", x.unwant(), 1);
    twelve(x);
    due("unwant of twelve", x.unwant(), 12);
    due("unwant once more", x.unwant(), 0);
  }

  static void promise20_thereIsRoomAgain() {
    Child x = new Child();
    twelve(x);
    x.unwant();
    twelve(x);
    due("a thirteenth", x.want(0, 0, 1), FULL);
  }

  static void promise20_theyCostNothingMore() {
    Child x = new Child();
    twelve(x);
    x.want(0, 0, 9);
    x.unwant();
    due("wants", x.count(2), 0);
    due("cost", x.cost(), 0);
    plan(x, ONES);
    due("cost", x.cost(), 0);
    due("the other wishes stay", x.wish(5, 1, 1), 14000);
  }

  static void promise20_noneOfThemComesBack() {
    Child x = new Child();
    x.wish(14, 0, 0);
    for (int night = 0; night <= 55; night += 55) {
      x.want(night, 0, 9);
      x.want(night, 1, 8);
    }
    x.unwant();
    due("best", x.best(), 0);
    due("a want of another night", x.want(7, 0, 5), 0);
    due("cost", x.cost(), 0);
    plan(x, ONES);
    due("cost", x.cost(), 5);
    due("best", x.best(), 0);
  }

  // ---- promise 21

  /** HOUSES in turn, so many NIGHTS each. */
  private static String inTurn(int nights) {
    StringBuilder row = new StringBuilder();
    for (int n = 0; n < 56; n++) row.append(n / nights % 2);
    return row.toString();
  }

  static void promise21_runsOfMoreThanM() {
    for (int m = 1; m <= 14; m++) {
      Child x = planned(inTurn(m));
      x.wish(m, 1, 0);
      due("runs of " + m, x.cost(), 0);
      plan(x, inTurn(m + 1));
      due("runs of " + (m + 1), x.cost(), 56 / (m + 1));
      plan(x, ONES);
      due("a run of 56", x.cost(), 56 - m);
    }
  }

  static void promise21_handings() {
    Child x = planned(ONES);
    x.wish(14, 0, 9);
    due("night 0 is none", x.cost(), 0);
    x.put(0, 0);
    due("one at night 1", x.cost(), 9);
    x.put(55, 0);
    due("one at night 55", x.cost(), 18);
  }

  static void promise21_leastAndMost() {
    Child x = new Child();
    x.wish(14, 0, 0);
    due("nothing counts", x.cost(), 0);
    x.wish(1, 9, 9);
    due("one run", x.cost(), 495);
    plan(x, TURNS);
    due("55 handings", x.cost(), 495);
    for (int i = 0; i < 12; i++) x.want(0, 1, 9);
    due("and twelve wants", x.cost(), 603);
    x.put(0, 1);
    // one HANDING less, one NIGHT of a longer RUN more
    due("they are so", x.cost(), 495);
  }

  static void promise21_wantsAtTheFirstNightAndTheLast() {
    for (int night = 0; night <= 55; night += 55) for (int house = 0; house <= 1; house++) {
      Child x = new Child();
      x.wish(14, 0, 0);
      x.want(night, house, 9);
      due("want " + night + " at " + house, x.cost(), house * 9);
      x.put(night, 1);
      due("want " + night + " at " + house, x.cost(), (1 - house) * 9);
    }
  }

  static void promise21_changesNothing() {
    onlyAsks("cost", Child::cost);
  }

  // ---- promise 22

  static void promise22_allNightsDecided() {
    due("best", of("E00").best(), 51);
    due("best", of("E01").best(), 51);
    Child x = of("E01");
    for (int i = 0; i < 12; i++) x.want(i, 0, 9);
    due("whatever is wanted", x.best(), 51 + 108);
  }

  static void promise22_noNightDecided() {
    for (String paper : new String[] {"", "E00E01"}) {
      Child x = of(paper);
      due("best", x.best(), 11);
      x.wish(14, 0, 0);
      due("nothing counts", x.best(), 0);
      x.wish(14, 9, 9);
      due("in runs of 14", x.best(), 27);
      x.wish(1, 9, 0);
      due("in turn", x.best(), 0);
      x.wish(1, 1, 9);
      due("in one run", x.best(), 55);
      x.wish(5, 0, 9);
      due("long runs are free", x.best(), 0);
    }
  }

  static void promise22_mOf1And14() {
    Child x = new Child();
    x.wish(1, 9, 1);
    due("runs of 1", x.best(), 55);
    x.wish(14, 9, 1);
    due("runs of 14", x.best(), 3);
    x.wish(13, 9, 1);
    due("runs of 13", x.best(), 4);
  }

  static void promise22_changesNothing() {
    onlyAsks("best", Child::best);
  }

  // ---- promise 23

  static void promise23_nights0To55() {
    Child x = of("F000001F055550");
    x.wish(14, 0, 1);
    due("bestAt 0", x.bestAt(0), 1);
    due("bestAt 1", x.bestAt(1), 0);
    due("bestAt 55", x.bestAt(55), 0);
    x = of("F000000F055551");
    x.wish(14, 0, 1);
    due("bestAt 0", x.bestAt(0), 0);
    due("bestAt 54", x.bestAt(54), 0);
    due("bestAt 55", x.bestAt(55), 1);
    for (int night : beyond(0, 55)) refused("bestAt " + night, y -> y.bestAt(night), UNKNOWN);
  }

  static void promise23_ofLikeOnesTheFirst() {
    Child x = of("F027271");
    x.wish(14, 0, 0);
    for (int n = 0; n < 56; n++) due("bestAt " + n, x.bestAt(n), n == 27 ? 1 : 0);
  }

  static void promise23_changesNothing() {
    onlyAsks("bestAt", x -> x.bestAt(30));
  }

  // ---- promise 24

  static void promise24_noneToAll() {
    Child x = new Child();
    x.wish(14, 0, 0);
    due("take of the same", x.take(), 0);
    x = of("E01");
    due("take of all", x.take(), 56);
    same("plan", planOf(x), ONES);
    due("take again", x.take(), 0);
    x.put(55, 0);
    due("take of one", x.take(), 1);
    x.put(0, 0);
    due("take of one", x.take(), 1);
  }

  static void promise24_thePlanIsTheBest() {
    Child x = new Child();
    busy(x);
    int best = x.best(), otherwise = 0;
    StringBuilder row = new StringBuilder();
    for (int n = 0; n < 56; n++) {
      row.append(x.bestAt(n));
      if (x.bestAt(n) != x.at(n)) otherwise++;
    }
    due("take", x.take(), otherwise);
    same("plan", planOf(x), row.toString());
    due("cost", x.cost(), best);
    due("judge", x.judge(), NONE);
    due("take again", x.take(), 0);
  }

  private static void takes(String paper, int m, int a, int j, String houses) {
    Child x = of(paper);
    x.wish(m, a, j);
    x.take();
    same("plan by " + paper, planOf(x), houses);
  }

  static void promise24_runsFromNight0On() {
    takes("", 2, 9, 1, "0011".repeat(14));
    takes("F000001", 2, 9, 1, "1100".repeat(14));
    takes("", 14, 9, 1, ("0".repeat(14) + "1".repeat(14)).repeat(2));
    takes("F000001", 14, 9, 1, ("1".repeat(14) + "0".repeat(14)).repeat(2));
    takes("F000001", 14, 0, 1, ONES);
    takes("F055551", 14, 0, 1, ONES);
  }

  static void promise24_ofLikeOnesTheFirst() {
    takes("", 14, 0, 0, ZEROS);
    takes("", 1, 9, 0, TURNS);
    takes("", 2, 9, 0, "001".repeat(18) + "00");
    takes("F000001", 2, 9, 0, "100".repeat(18) + "10");
    takes("F000000F055551", 14, 0, 9, "0".repeat(55) + "1");
  }

  static void promise24_theRestStays() {
    Child x = new Child();
    busy(x);
    x.take();
    same("fines", finesOf(x), " 2 1 15 4");
    due("bytes", x.count(0), 16);
    due("rules", x.count(1), 4);
    due("wants", x.count(2), 3);
    due("year", x.year(8), 8);
    due("wishes", x.wish(4, 3, 2), 4032);
    due("slot", x.again(0), 3);
    due("its plan", x.at(55), 1);
    due("its plan", x.at(54), 0);
  }

  public static void main(String[] args) {
    run(EdgesOfPlansTest.class, 14, 24);
  }
}
