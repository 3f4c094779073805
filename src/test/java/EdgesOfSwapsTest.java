/** The edges that promises 25 to 32 and the terms ahead of them name: near, swaps, late. */
public final class EdgesOfSwapsTest extends Trial {
  private static final String ONES = "1".repeat(56);
  private static final String HALVES = "0".repeat(28) + "1".repeat(28);

  private static Child planned(String houses) {
    Child x = new Child();
    plan(x, houses);
    return x;
  }

  /** A new one with these NIGHTS at HOUSE 1. */
  private static Child with(int... nights) {
    Child x = new Child();
    for (int n : nights) x.put(n, 1);
    return x;
  }

  // ---- promise 25

  private static void nearOf(Child x, int... want) {
    for (int n = 1; n <= 8; n++) due("near " + n, x.near(n), want[n - 1]);
  }

  static void promise25_n1To8() {
    nearOf(new Child(), 0, 0, 0, 0, 0, 0, 0, 0);
    nearOf(planned(ONES), 0, 0, 0, 0, 0, 0, 0, 0);
    for (int n : beyond(1, 8)) refused("near " + n, x -> x.near(n), OUTSIDE);
  }

  static void promise25_halfOfAllAtMost() {
    nearOf(planned(HALVES), 28, 28, 21, 28, 21, 14, 7, 0);
    nearOf(planned("0000000".concat("1111111").repeat(4)), 28, 0, 21, 0, 21, 0, 7, 0);
  }

  static void promise25_theLastWeeksMayBeCutOff() {
    nearOf(with(55), 1, 1, 1, 1, 1, 1, 1, 0);
    nearOf(with(0), 1, 1, 1, 1, 1, 1, 1, 0);
    nearOf(with(27), 1, 1, 1, 1, 0, 0, 0, 0);
    nearOf(with(28), 1, 1, 1, 1, 0, 0, 0, 0);
    nearOf(with(34, 14), 2, 2, 2, 2, 1, 0, 0, 0);
  }

  static void promise25_changesNothing() {
    onlyAsks("near", x -> x.near(3));
  }

  // ---- promise 26

  static void promise26_x0To56() {
    due("brief 0", new Child().brief(0), 1);
    due("brief 56", new Child().brief(56), 1);
    for (int x : beyond(0, 56)) refused("brief " + x, y -> y.brief(x), OUTSIDE);
  }

  static void promise26_noMoreThanX() {
    Child x = planned(HALVES);
    int[] by = {0, 6, 7, 13, 14, 20, 21, 27, 28, 56}, want = {8, 8, 7, 7, 6, 6, 3, 3, 1, 1};
    for (int i = 0; i < by.length; i++) due("brief " + by[i], x.brief(by[i]), want[i]);
  }

  static void promise26_eightWeeksAreAlwaysEnough() {
    due("brief 0", with(0).brief(0), 8);
    due("brief 0", with(55).brief(0), 8);
    due("brief 0", with(27).brief(0), 5);
    due("brief 1", with(55).brief(1), 1);
  }

  static void promise26_changesNothing() {
    onlyAsks("brief", x -> x.brief(3));
  }

  // ---- promise 27

  static void promise27_nights0To55() {
    Child x = with(0);
    x.wish(14, 0, 1);
    due("swap", x.swap(0, 55), 1000);
    same("plan", planOf(x), "0".repeat(55) + "1");
    due("swap back, told the same way", x.swap(0, 55), 1000);
    same("plan", planOf(x), "1" + "0".repeat(55));
    due("swap, told the other way", x.swap(55, 0), 1000);
    same("plan", planOf(x), "0".repeat(55) + "1");
    for (int night : beyond(0, 55)) {
      refused("swap " + night, y -> y.swap(night, 6), UNKNOWN);
      refused("swap with " + night, y -> y.swap(6, night), UNKNOWN);
    }
  }

  static void promise27_bothAtOneHouse() {
    refused("both at 0", x -> x.swap(1, 2), STATE);
    leaves("both at 1", Trial::busy, x -> x.swap(0, 55), STATE);
    refused("a night with itself", x -> x.swap(4, 4), STATE);
    leaves("a night at 1 with itself", Trial::busy, x -> x.swap(55, 55), STATE);
  }

  static void promise27_unknownIsNamedBeforeState() {
    refused("swap -1 with -1", x -> x.swap(-1, -1), UNKNOWN);
    refused("swap 56 with 56", x -> x.swap(56, 56), UNKNOWN);
    refused("swap 55 with 56", x -> x.swap(55, 56), UNKNOWN);
    refused("swap -1 with 0", x -> x.swap(-1, 0), UNKNOWN);
  }

  static void promise27_moreOrLess() {
    Child x = with(0);
    x.wish(14, 0, 9);
    due("a handing more", x.swap(0, 10), 1009);
    due("a handing less", x.swap(0, 10), 991);
    for (int i = 0; i < 12; i++) x.want(0, 1, 9);
    due("twelve wants more", x.swap(0, 55), 1108);
    due("twelve wants less", x.swap(0, 55), 892);
  }

  static void promise27_nextNights() {
    Child x = planned("0".repeat(27) + "01" + "0".repeat(27));
    x.wish(14, 0, 1);
    due("swap", x.swap(27, 28), 1000);
    same("plan", planOf(x), "0".repeat(27) + "10" + "0".repeat(27));
  }

  // ---- promise 28

  static void promise28_nights0To55() {
    Child x = of("E01");
    for (int n = 0; n <= 55; n++) due("owed " + n, x.owed(n), 101 + n);
    for (int night : beyond(0, 55)) refused("owed " + night, y -> y.owed(night), UNKNOWN);
  }

  static void promise28_itMayBeBelow0() {
    Child x = of("E00");
    plan(x, ONES);
    for (int n = 0; n <= 55; n++) due("owed " + n, x.owed(n), 99 - n);
  }

  static void promise28_upToThatNightToo() {
    Child x = of("F010101F020200");
    x.put(20, 1);
    int[] nights = {0, 9, 10, 11, 19, 20, 21, 55}, owed = {100, 100, 101, 101, 101, 100, 100, 100};
    for (int i = 0; i < nights.length; i++) due("owed " + nights[i], x.owed(nights[i]), owed[i]);
  }

  static void promise28_onlyDecidedNightsAreGiven() {
    due("without rules", with(0, 1, 2).owed(55), 100);
    Child x = of("E00E01");
    x.put(0, 1);
    due("fighting", x.owed(55), 100);
    onlyAsks("owed", y -> y.owed(55));
  }

  // ---- promise 29

  static void promise29_fromNight0() {
    due("nothing is given", new Child().even(), 0);
    due("nothing is given", of("E00").even(), 0);
  }

  static void promise29_notAtTheLast() {
    due("all is given", of("E01").even(), NONE);
    due("the first is given", of("F000001").even(), NONE);
    due("the last is given", of("F055551").even(), NONE);
    Child x = of("E00");
    x.put(55, 1);
    due("the last is given by 0", x.even(), NONE);
  }

  static void promise29_fromTheLast() {
    Child x = of("F000000F055551");
    x.put(0, 1);
    due("even", x.even(), 55);
  }

  static void promise29_toTheLast() {
    Child x = of("F000001F001010F002021F003030");
    x.put(1, 1);
    due("uneven from 2 on", x.even(), NONE);
    x.put(3, 1);
    due("even at 1, not at 2", x.even(), 3);
    x.put(2, 1);
    due("below 0 at the last", x.even(), NONE);
    x.put(3, 0);
    due("even", x.even(), 1);
    x.put(0, 1);
    x.put(1, 0);
    due("even", x.even(), 0);
    onlyAsks("even", Child::even);
  }

  // ---- promise 30

  static void promise30_nights0To55() {
    due("wedding 0", with(1).wedding(0, 1), 1);
    due("wedding 55", with(54).wedding(55, 1), 54);
    for (int night : beyond(0, 55)) {
      refused("wedding " + night, x -> x.wedding(night, 0), UNKNOWN);
      refused("wedding " + night, x -> x.wedding(night, 1), UNKNOWN);
    }
  }

  static void promise30_houses0And1() {
    Child x = planned(ONES);
    x.put(20, 0);
    due("wedding at 0", x.wedding(21, 0), 20);
    due("wedding at 1", with(20).wedding(21, 1), 20);
    for (int house : beyond(0, 1)) refused("wedding at " + house, y -> y.wedding(21, house), UNKNOWN);
    refused("wedding 56 at 2", y -> y.wedding(56, 2), UNKNOWN);
  }

  static void promise30_noMoreThan14Off() {
    due("14 ahead", with(14).wedding(28, 1), 14);
    due("15 ahead", with(13).wedding(28, 1), NONE);
    due("14 behind", with(42).wedding(28, 1), 42);
    due("15 behind", with(43).wedding(28, 1), NONE);
    due("14 behind the first", with(14).wedding(0, 1), 14);
    due("15 behind the first", with(15).wedding(0, 1), NONE);
    due("14 ahead of the last", with(41).wedding(55, 1), 41);
    due("15 ahead of the last", with(40).wedding(55, 1), NONE);
    due("the first for 14", with(0).wedding(14, 1), 0);
    due("the last for 41", with(55).wedding(41, 1), 55);
  }

  static void promise30_none() {
    due("it is there", new Child().wedding(5, 0), NONE);
    due("it is there, others too", planned(ONES).wedding(5, 1), NONE);
    due("there is no such night", new Child().wedding(5, 1), NONE);
    for (int night : new int[] {0, 5, 13, 14, 41, 42, 50, 55}) {
      due("there is no such night", planned(ONES).wedding(night, 0), NONE);
      due("there is no such night", new Child().wedding(night, 1), NONE);
    }
  }

  static void promise30_ofLikeOnesTheLeast() {
    Child x = with(14, 20, 42);
    x.wish(14, 0, 0);
    due("all alike", x.wedding(28, 1), 14);
    x.want(14, 1, 1);
    due("14 is dearer", x.wedding(28, 1), 20);
    x.want(20, 1, 1);
    due("20 is as dear", x.wedding(28, 1), 42);
    x.want(42, 1, 1);
    due("all alike again", x.wedding(28, 1), 14);
  }

  static void promise30_nothingChanges() {
    onlyAsks("wedding", x -> x.wedding(10, 1));
    onlyAsks("wedding", x -> x.wedding(10, 0));
  }

  // ---- promise 31

  static void promise31_nights0To55() {
    due("late 1", with(1).late(1, 5), NONE);
    due("late 55", with(55).late(55, 5), NONE);
    for (int night : beyond(0, 55)) refused("late " + night, x -> x.late(night, 5), UNKNOWN);
  }

  static void promise31_minutes1To99() {
    due("late by 1", with(12).late(12, 1), NONE);
    due("late by 99", with(12).late(12, 99), NONE);
    for (int minutes : beyond(1, 99)) refused("late by " + minutes, x -> x.late(12, minutes), OUTSIDE);
  }

  static void promise31_noHanding() {
    refused("night 0", x -> x.late(0, 5), STATE);
    leaves("night 0 at 1", x -> x.put(0, 1), x -> x.late(0, 5), STATE);
    refused("as the one ahead", x -> x.late(5, 5), STATE);
    leaves("behind a handing", x -> { x.put(10, 1); x.put(11, 1); }, x -> x.late(11, 5), STATE);
    leaves("ahead of a handing", x -> { x.put(10, 1); x.put(11, 1); }, x -> x.late(9, 5), STATE);
  }

  static void promise31_theFirstRefusalNamed() {
    refused("late 56 by 0", x -> x.late(56, 0), UNKNOWN);
    refused("late -1 by 100", x -> x.late(-1, 100), UNKNOWN);
    refused("late 0 by 0", x -> x.late(0, 0), OUTSIDE);
    refused("late 5 by 100", x -> x.late(5, 100), OUTSIDE);
  }

  static void promise31_tensThatAreBegun() {
    int[] minutes = {1, 9, 10, 11, 19, 20, 21, 50, 51, 89, 90, 91, 99}, fine = {1, 1, 1, 2, 2, 2, 3, 5, 6, 9, 9, 10, 10};
    for (int i = 0; i < minutes.length; i++) {
      Child x = with(12);
      x.late(12, minutes[i]);
      same("late by " + minutes[i], finesOf(x), " 0 0 " + fine[i] + " 1");
      x.late(13, minutes[i]);
      same("late by " + minutes[i], finesOf(x), " " + fine[i] + " 1 " + fine[i] + " 1");
    }
  }

  static void promise31_thirdAndSixthAndNinth() {
    Child x = of("E01");
    plan(x, "0" + "1".repeat(55));
    for (int night = 1; night <= 5; night += 2) {
      due("first", x.late(night, 5), NONE);
      due("second", x.late(night, 5), NONE);
      due("at", x.at(night + 1), 1);
      due("third", x.late(night, 5), night + 1);
      due("lost", x.at(night + 1), 0);
    }
    same("plan", planOf(x), "0101010" + "1".repeat(49));
    same("fines", finesOf(x), " 0 0 9 9");
  }

  static void promise31_eachHouseHasItsOwnTimes() {
    Child x = of("F020290F030391");
    plan(x, "0".repeat(10) + "1".repeat(5) + "0".repeat(41));
    due("1 once", x.late(10, 5), NONE);
    due("0 once", x.late(15, 5), NONE);
    due("1 twice", x.late(10, 5), NONE);
    due("0 twice", x.late(15, 5), NONE);
    due("1 thrice", x.late(10, 5), 30);
    due("lost", x.at(30), 0);
    due("0 thrice", x.late(15, 5), 20);
    due("lost", x.at(20), 1);
  }

  private static int third(Child x, int night) {
    due("first", x.late(night, 5), NONE);
    due("second", x.late(night, 5), NONE);
    return x.late(night, 5);
  }

  static void promise31_behindThatNight() {
    Child x = of("F010101F012121F055551");
    for (int n : new int[] {10, 11, 12}) x.put(n, 1);
    due("not the night itself", third(x, 10), 12);
    x = of("F009101");
    x.put(10, 1);
    due("none behind it", third(x, 10), NONE);
    due("at", x.at(10), 1);
    due("at", x.at(9), 0);
    x = of("F055551");
    x.put(54, 1);
    x.put(55, 1);
    due("the last", third(x, 54), 55);
    due("lost", x.at(55), 0);
    x = of("F055551");
    x.put(55, 1);
    due("behind the last there is none", third(x, 55), NONE);
    due("at", x.at(55), 1);
    same("fines", finesOf(x), " 0 0 3 3");
  }

  static void promise31_onlyWhatIsDecidedForIt() {
    // behind NIGHT 10: one of HOUSE 0, one that FIGHTS, open ones, then one of HOUSE 1
    Child x = of("F011110F012120F012121F020201");
    for (int n : new int[] {10, 13}) x.put(n, 1);
    due("of 1", third(x, 10), 20);
    due("without rules", third(with(10), 10), NONE);
    x = of("E00E01");
    x.put(10, 1);
    due("all fight", third(x, 10), NONE);
  }

  static void promise31_whereverThePlanHasIt() {
    Child x = of("F020211"), at = of("F020211");
    x.put(10, 1);
    due("at the other house before", third(x, 10), 20);
    same("plan", planOf(x), "0".repeat(10) + "1" + "0".repeat(45));
    due("the same one the sixth time", third(x, 10), 20);
    for (int n : new int[] {10, 20, 21}) at.put(n, 1);
    due("at its own house before", third(at, 10), 20);
    same("plan", planOf(at), "0".repeat(10) + "1" + "0".repeat(10) + "1" + "0".repeat(34));
    due("the same one the sixth time", third(at, 10), 20);
  }

  static void promise31_byTheYear() {
    Child x = of("Y020201Y021210");
    x.put(10, 1);
    x.year(2);
    due("in an even one", third(x, 10), 21);
  }

  // ---- promise 32

  static void promise32_houses0And1() {
    same("at first", finesOf(new Child()), " 0 0 0 0");
    for (int house : beyond(0, 1)) {
      refused("fines of " + house, x -> x.fines(house, false), UNKNOWN);
      refused("times of " + house, x -> x.fines(house, true), UNKNOWN);
    }
  }

  static void promise32_changesNothing() {
    for (int house = 0; house <= 1; house++) {
      int of = house;
      onlyAsks("fines", x -> x.fines(of, false));
      onlyAsks("times", x -> x.fines(of, true));
    }
  }

  public static void main(String[] args) {
    run(EdgesOfSwapsTest.class, 25, 32);
  }
}
