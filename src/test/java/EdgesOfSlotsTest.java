/** The edges that promises 33 to 39 and the terms ahead of them name: a move, brothers, years, slots. */
public final class EdgesOfSlotsTest extends Trial {
  private static final String ONES = "1".repeat(56);
  private static final String TEN_LONG = "F900000F900000F900000F900000F900000F900000F900000W96100W96100E81";

  // ---- promise 33

  static void promise33_minutes0To99() {
    due("move 0", of("E01").move(0), 0);
    due("move 99", of("E01").move(99), 40);
    for (int minutes : beyond(0, 99)) refused("move " + minutes, x -> x.move(minutes), OUTSIDE);
  }

  static void promise33_moreThan45() {
    Child x = of("E01");
    due("move 44", x.move(44), 0);
    due("move 45", x.move(45), 0);
    due("move 46", x.move(46), 40);
    due("move 45 again", x.move(45), 0);
  }

  static void promise33_weekdays60123() {
    int[] ahead = {8, 8, 8, 8, 0, 0, 8};
    for (int d = 0; d <= 6; d++) due("weekday " + d, of("W0" + d + "101").move(46), ahead[d]);
    due("night 0", of("F000001").move(46), 1);
    due("nights 4 and 5", of("F004051").move(46), 0);
    due("night 6", of("F006061").move(46), 1);
    due("night 53 and 54", of("F053541").move(46), 0);
    due("night 55", of("F055551").move(46), 1);
  }

  static void promise33_onlyDecidedForHouse1() {
    due("for 0", of("E00").move(99), 0);
    due("open", new Child().move(99), 0);
    due("fighting", of("E00E01").move(99), 0);
    Child x = new Child();
    plan(x, ONES);
    due("of the plan", x.move(99), 0);
  }

  static void promise33_changesNothing() {
    onlyAsks("move 99", x -> x.move(99));
    onlyAsks("move 0", x -> x.move(0));
  }

  // ---- promise 34

  static void promise34_minutes0To99() {
    Child x = of("E01");
    x.wish(14, 0, 1);
    due("then 0", x.then(0), 0);
    due("then 99", x.then(99), 16);
    for (int minutes : beyond(0, 99)) refused("then " + minutes, y -> y.then(minutes), OUTSIDE);
  }

  static void promise34_moreThan45() {
    Child x = of("E01");
    x.wish(14, 0, 1);
    due("then 45", x.then(45), 0);
    due("then 46", x.then(46), 16);
    due("then 45 again", x.then(45), 0);
    due("best", x.best(), 0);
  }

  static void promise34_openAndFightingOnesToo() {
    for (String paper : new String[] {"", "E00E01"}) {
      Child x = of(paper);
      x.wish(4, 1, 0);
      // NIGHTS 0 to 3, then each 6 to 10 of five: each of seven has one too many
      due("then 46", x.then(46), 7);
      due("then 45", x.then(45), 0);
    }
  }

  static void promise34_theOthersAreAsDecided() {
    Child x = of("F004041F005050");
    x.wish(14, 0, 1);
    for (int i = 0; i < 12; i++) x.want(i % 2 + 4, i % 2, 9);
    due("then 99", x.then(99), 110);
    due("then 0", x.then(0), 109);
  }

  static void promise34_changesNothing() {
    onlyAsks("then 99", x -> x.then(99));
    onlyAsks("then 45", x -> x.then(45));
  }

  // ---- promise 35

  static void promise35_slots0To1() {
    Child x = of("E00");
    x.keep(0);
    give(x, "F000090");
    x.keep(1);
    due("slot 0", x.together(0, false), 10);
    due("slot 1", x.together(1, false), 10);
    give(x, "E00");
    due("slot 0", x.together(0, false), 56);
    due("slot 1", x.together(1, false), 10);
    for (int slot : beyond(0, 1)) {
      refused("together with " + slot, y -> y.together(slot, false), UNKNOWN);
      refused("at most with " + slot, y -> y.together(slot, true), UNKNOWN);
    }
  }

  static void promise35_noneWasKept() {
    for (int slot = 0; slot <= 1; slot++) {
      int of = slot;
      leaves("together with " + slot, Trial::fresh, x -> x.together(of, false), STATE);
      leaves("at most with " + slot, Trial::fresh, x -> x.together(of, true), STATE);
      leaves("the other one was kept", x -> x.keep(1 - of), x -> x.together(of, false), STATE);
      leaves("the other one was kept", x -> x.keep(1 - of), x -> x.together(of, true), STATE);
    }
  }

  private static void brothers(String own, String kept, int together, int most) {
    for (int slot = 0; slot <= 1; slot++) {
      Child x = of(kept);
      x.keep(slot);
      give(x, own);
      due(own + " together with " + kept, x.together(slot, false), together);
      due(own + " at most with " + kept, x.together(slot, true), most);
    }
  }

  static void promise35_noneToAll() {
    brothers("E00", "E00", 56, 56);
    brothers("E01", "E01", 56, 56);
    brothers("E00", "E01", 0, 0);
    brothers("E01", "E00", 0, 0);
    brothers("F000000", "F000000", 1, 56);
    brothers("F055551", "F055550", 0, 55);
  }

  static void promise35_whatIsNotDecidedMayBeEithers() {
    brothers("", "", 0, 56);
    brothers("E00", "", 0, 56);
    brothers("", "E01", 0, 56);
    brothers("E00E01", "E00E01", 0, 56);
    brothers("E00E01", "E01", 0, 56);
    brothers("E00", "E00E01", 0, 56);
  }

  static void promise35_byTheYear() {
    Child x = of("Y000550");
    x.keep(0);
    x.year(2);
    give(x, "E01");
    due("in an even one", x.together(0, false), 56);
    due("in an even one", x.together(0, true), 56);
    x.year(99);
    due("in an odd one", x.together(0, false), 0);
    due("in an odd one", x.together(0, true), 0);
  }

  static void promise35_changesNothing() {
    onlyAsks("together", x -> x.together(0, false));
    onlyAsks("at most", x -> x.together(1, true));
  }

  // ---- promise 36

  static void promise36_leastAndMost() {
    due("all of 1", of("E01").years(), 88);
    due("all of 0", of("E00").years(), 312);
    due("none", new Child().years(), 200);
    due("all fight", of("E00E01").years(), 200);
  }

  static void promise36_anOddAndAnEvenOneTogether() {
    due("years take turns", of("Y000551").years(), 200);
    due("they fight in an odd one", of("Y000551F000550").years(), 256);
    due("they fight in an even one", of("Y000550F000550").years(), 256);
    due("of 1", of("Y000551F000551").years(), 144);
    due("one night", of("F055551").years(), 198);
  }

  static void promise36_whateverTheYear() {
    Child x = of("Y000551F000000");
    for (int year : new int[] {0, 1, 2, 98, 99}) {
      x.year(year);
      due("years in " + year, x.years(), 201);
      due("the year stays", x.year(year), year);
    }
    onlyAsks("years", Child::years);
  }

  // ---- promise 37

  static void promise37_slots0To1() {
    for (int slot = 0; slot <= 1; slot++) {
      Child x = of("E01");
      due("keep", x.keep(slot), 1);
      due("again", x.again(slot), 1);
      due("the other one", x.again(1 - slot), STATE);
    }
    for (int slot : beyond(0, 1)) refused("keep " + slot, x -> x.keep(slot), UNKNOWN);
  }

  static void promise37_noneToTenRules() {
    due("keep of none", new Child().keep(0), 0);
    due("keep of ten", of(TEN_LONG).keep(1), 10);
  }

  static void promise37_whatWasKeptThereIsGone() {
    Child x = of(TEN_LONG);
    plan(x, ONES);
    x.keep(0);
    give(x, "F000000");
    x.put(1, 0);
    x.late(2, 95);
    due("keep", x.keep(0), 1);
    give(x, "");
    x.put(2, 0);
    due("again", x.again(0), 1);
    same("plan", planOf(x), "10" + "1".repeat(54));
    same("whose", whoseOf(x), "0" + "2".repeat(55));
    same("fines", finesOf(x), " 0 0 10 1");
  }

  static void promise37_whatIsKeptStandsOn() {
    Child x = new Child();
    busy(x);
    String plan = planOf(x), whose = whoseOf(x), fines = finesOf(x);
    due("keep", x.keep(1), 4);
    same("plan", planOf(x), plan);
    same("whose", whoseOf(x), whose);
    same("fines", finesOf(x), fines);
    due("bytes", x.count(0), 16);
    due("the other one", x.again(0), 3);
  }

  // ---- promise 38

  static void promise38_slots0To1() {
    for (int slot : beyond(0, 1)) refused("again " + slot, x -> x.again(slot), UNKNOWN);
  }

  static void promise38_noneWereKept() {
    for (int slot = 0; slot <= 1; slot++) {
      int of = slot;
      leaves("again " + slot, Trial::fresh, x -> x.again(of), STATE);
      leaves("again " + slot, x -> { give(x, "E01"); x.put(9, 1); x.late(9, 9); x.keep(1 - of); }, x -> x.again(of), STATE);
    }
  }

  static void promise38_aNewOneIsKeptToo() {
    Child x = new Child();
    x.keep(0);
    busy(x);
    x.keep(1);
    x.again(1);
    due("of busy", x.count(1), 4);
    x = new Child();
    x.keep(0);
    give(x, "E01");
    plan(x, ONES);
    x.put(0, 0);
    x.late(1, 50);
    due("again", x.again(0), 0);
    same("plan", planOf(x), "0".repeat(56));
    same("whose", whoseOf(x), "2".repeat(56));
    same("fines", finesOf(x), " 0 0 0 0");
  }

  static void promise38_allThatIsKept() {
    Child x = of(TEN_LONG);
    plan(x, ONES);
    x.put(0, 0);
    x.put(55, 0);
    for (int i = 0; i < 2; i++) {
      x.late(1, 99);
      x.late(55, 15);
    }
    x.keep(1);
    give(x, "E00".repeat(10));
    plan(x, "10");
    x.late(1, 20);
    x.late(2, 20);
    due("again", x.again(1), 10);
    due("rules", x.count(1), 10);
    due("the last one", x.says(9, 55), 1);
    due("its rank", x.words(55), 512);
    same("plan", planOf(x), "0" + "1".repeat(54) + "0");
    same("fines", finesOf(x), " 4 2 20 2");
    due("a third time of 1", x.late(1, 1), 2);
    due("again once more", x.again(1), 10);
    due("it is not lost there", x.at(2), 1);
    due("a third time of 1", x.late(1, 1), 2);
  }

  static void promise38_whatIsNotKeptStays() {
    Child x = of("E01");
    x.keep(0);
    x.year(99);
    x.wish(14, 9, 9);
    x.want(0, 1, 9);
    tell(x, "E");
    x.again(0);
    due("year", x.year(1), 99);
    due("wishes", x.wish(5, 1, 1), 14099);
    due("wants", x.count(2), 1);
    due("bytes", x.count(0), 4);
    due("fault", x.fault(), 4);
  }

  static void promise38_slotsAreApart() {
    Child x = new Child();
    x.put(3, 1);
    x.keep(0);
    x.put(4, 1);
    x.keep(1);
    x.again(0);
    due("at 4", x.at(4), 0);
    x.put(5, 1);
    x.again(1);
    due("at 4", x.at(4), 1);
    due("at 5", x.at(5), 0);
    x.again(0);
    due("at 3", x.at(3), 1);
    due("at 5", x.at(5), 0);
  }

  // ---- promise 39

  static void promise39_what0To3() {
    Child x = of("F000091");
    due("bytes", x.count(0), 7);
    due("rules", x.count(1), 1);
    due("wants", x.count(2), 0);
    due("not as decided", x.count(3), 10);
    for (int what : beyond(0, 3)) refused("count " + what, y -> y.count(what), OUTSIDE);
    for (int what = 0; what <= 3; what++) {
      int of = what;
      onlyAsks("count " + what, y -> y.count(of));
    }
  }

  static void promise39_leastAndMost() {
    Child x = new Child();
    for (int what = 0; what <= 3; what++) due("count " + what, x.count(what), 0);
    give(x, TEN_LONG);
    for (int i = 0; i < 12; i++) x.want(0, 0, 1);
    due("bytes", x.count(0), 64);
    due("rules", x.count(1), 10);
    due("wants", x.count(2), 12);
    due("not as decided", x.count(3), 56);
    plan(x, ONES);
    due("not as decided", x.count(3), 0);
    give(x, "E00");
    due("not as decided", x.count(3), 56);
  }

  static void promise39_whatIsRefusedIsNotCounted() {
    Child x = of(TEN_LONG);
    for (int i = 0; i < 13; i++) x.want(0, 0, 1);
    x.write(1, 'E');
    due("bytes", x.count(0), 64);
    due("wants", x.count(2), 12);
  }

  static void promise39_openAndFightingNightsAreNotCounted() {
    Child x = of("F000090F000091F010191");
    due("not as decided", x.count(3), 10);
    plan(x, ONES);
    due("not as decided", x.count(3), 0);
  }

  public static void main(String[] args) {
    run(EdgesOfSlotsTest.class, 33, 39);
  }
}
