/** Each promise of the document by number: ordinary calls, its edges, and what it refuses. */
public final class PromisesTest {
  private static final int UNKNOWN = -1, OUTSIDE = -2, STATE = -3, FULL = -4, NONE = -9;
  private static final int LOW = Integer.MIN_VALUE, HIGH = Integer.MAX_VALUE;
  private static int wrong = 0;
  private static int promise = 0;

  private static void due(String call, long got, long want) {
    if (got != want) {
      wrong++;
      System.out.println("promise " + promise + ": " + call + " answered " + got + ", due is " + want);
    }
  }

  private static TwoHousesOneChild fresh() {
    return new TwoHousesOneChild();
  }

  private static void write(TwoHousesOneChild x, String text) {
    int was = x.count(0);
    for (int from = 0; from < text.length(); from += 8) {
      int n = Math.min(8, text.length() - from);
      long v = 0;
      for (int i = 0; i < n; i++) v = v << 8 | text.charAt(from + i);
      due("write of " + text, x.write(n, v), was + from + n);
    }
  }

  private static int takePaper(TwoHousesOneChild x, String text) {
    x.wipe();
    write(x, text);
    return x.paper();
  }

  private static TwoHousesOneChild of(String paper) {
    TwoHousesOneChild x = fresh();
    if (takePaper(x, paper) < 0) throw new IllegalStateException("no paper: " + paper);
    return x;
  }

  private static void plan(TwoHousesOneChild x, String houses) {
    for (int n = 0; n < houses.length(); n++) x.put(n, houses.charAt(n) - '0');
  }

  private static String planOf(TwoHousesOneChild x) {
    StringBuilder houses = new StringBuilder();
    for (int n = 0; n < 56; n++) houses.append(x.at(n));
    return houses.toString();
  }

  private static void same(String what, String got, String want) {
    if (!got.equals(want)) {
      wrong++;
      System.out.println("promise " + promise + ": " + what + " is " + got + ", due is " + want);
    }
  }

  /** All that can be seen without a change: to look whether what is refused changes nothing. */
  private static String seen(TwoHousesOneChild x) {
    StringBuilder all = new StringBuilder(planOf(x));
    for (int n = 0; n < 56; n++) all.append(x.whose(n)).append(' ').append(x.words(n)).append(' ').append(x.owed(n)).append(';');
    for (int i = 0; i < 4; i++) all.append(x.count(i)).append(' ');
    all.append(x.fault()).append(' ').append(x.cost()).append(' ').append(x.best()).append(' ');
    for (int h = 0; h < 2; h++) {
      all.append(x.fines(h, true)).append(' ').append(x.fines(h, false)).append(' ');
      all.append(x.together(h, true)).append(' ').append(x.together(h, false)).append(' ');
    }
    int year = x.year(1);
    x.year(year);
    int wishes = x.wish(1, 0, 0);
    x.wish(wishes / 1000, wishes % 1000 / 10, wishes % 10);
    return all.append(year).append(' ').append(wishes).toString();
  }

  private static void promise1() {
    promise = 1;
    TwoHousesOneChild x = fresh();
    for (int n = 0; n < 56; n++) {
      due("at " + n, x.at(n), 0);
      due("whose " + n, x.whose(n), 2);
    }
    for (int i = 0; i < 4; i++) due("count " + i, x.count(i), 0);
    due("fault", x.fault(), NONE);
    for (int h = 0; h < 2; h++) {
      due("times", x.fines(h, true), 0);
      due("fines", x.fines(h, false), 0);
      due("again", x.again(h), STATE);
      due("together", x.together(h, false), STATE);
    }
    due("year", x.year(1), 1);
    due("wish", x.wish(5, 1, 1), 5011);
  }

  private static void promise2() {
    promise = 2;
    TwoHousesOneChild x = fresh();
    for (int n : new int[] {0, 9, -1, LOW, HIGH}) due("write n " + n, x.write(n, 0), OUTSIDE);
    due("length", x.count(0), 0);
    // the lowest three bytes are "E31", the others do not come
    due("write", x.write(3, 0x5757575757000000L | 'E' << 16 | '3' << 8 | '1'), 3);
    due("paper", x.paper(), 1);
    due("whose", x.whose(0), 1);
    due("write a negative v", x.write(8, -1L), 11);
    due("fault", x.fault(), 3);
    x.wipe();
    for (int i = 1; i <= 20; i++) due("write", x.write(3, 'E' << 16 | '0' << 8 | '0'), 3 * i);
    due("write too much", x.write(5, 0), FULL);
    due("nothing came", x.count(0), 60);
    due("write to the end", x.write(4, 0), 64);
    due("write at the end", x.write(1, 0), FULL);
    due("refusals in their order", x.write(9, 0), OUTSIDE);
    due("length", x.count(0), 64);
  }

  private static void promise3() {
    promise = 3;
    TwoHousesOneChild x = of("E01");
    due("wipe", x.wipe(), 3);
    due("wipe again", x.wipe(), 0);
    due("length", x.count(0), 0);
    due("the paper stays", x.whose(7), 1);
    write(x, "E00");
    due("what is wiped is gone", x.fault(), NONE);
  }

  private static void faultOf(String text, int want) {
    TwoHousesOneChild x = fresh();
    write(x, text);
    due("fault of " + text, x.fault(), want);
  }

  private static void promise4() {
    promise = 4;
    faultOf("", NONE);
    faultOf("E00", NONE);
    faultOf("E91", NONE);
    faultOf("E", 1);
    faultOf("E9", 2);
    faultOf("E:", 1);
    faultOf("E/", 1);
    faultOf("E02", 2);
    faultOf("E0/", 2);
    faultOf("e00", 0);
    faultOf("0", 0);
    faultOf("E00X", 3);
    faultOf("E00 ", 3);
    faultOf("W", 1);
    faultOf("W06430", NONE);
    faultOf("W0643", 5);
    faultOf("W07", 2);
    faultOf("W000", 3);
    faultOf("W005", 3);
    faultOf("W0011", 4);
    faultOf("W0044", 4);
    faultOf("W00432", 5);
    faultOf("W0000", 3);
    for (String letter : new String[] {"F", "H", "Y"}) {
      faultOf(letter + "000000", NONE);
      faultOf(letter + "055551", NONE);
      faultOf(letter + "055552", 6);
      faultOf(letter + "05555", 6);
      faultOf(letter + "06", 2);
      faultOf(letter + "056", 3);
      faultOf(letter + "0495", 5);
      faultOf(letter + "0494", 5);
      faultOf(letter + "04950", 6);
      faultOf(letter + "04949", 6);
      faultOf(letter + "04948", 5);
      faultOf(letter + "0493", 4);
      faultOf(letter + "0006", 4);
      faultOf(letter + "00056", 5);
      faultOf(letter + "02019", 4);
      faultOf(letter + "0A", 2);
    }
    faultOf("E00E00E00E00E00E00E00E00E00E00", NONE);
    faultOf("E00E00E00E00E00E00E00E00E00E00E", 30);
    faultOf("E00E00E00E00E00E00E00E00E00E00?", 30);
    // 64 bytes, the tenth RULE not at its end: the length of a TEXT is set aside
    faultOf("F000550F000550F000550F000550F000550F000550F000550F000550F000550F", 64);
    faultOf("F000550F000550F000550F000550F000550F000550F000550F000550E00W1010", 64);
  }

  private static void promise5() {
    promise = 5;
    TwoHousesOneChild x = fresh();
    due("an empty paper", x.paper(), 0);
    due("paper", takePaper(x, "E01W0010"), STATE);
    due("whose", x.whose(0), 2);
    write(x, "0");
    due("the text goes on", x.paper(), 2);
    due("paper", takePaper(x, "W10100E11"), 2);
    due("the text stays", x.count(0), 9);
    due("rules", x.count(1), 2);
    String before = seen(x);
    due("again the same", x.paper(), 2);
    same("what is seen", seen(x), before);
    due("a fault", takePaper(x, "E00Z"), STATE);
    due("the paper is as it was", x.whose(3), 1);
    due("rules", x.count(1), 2);
    due("ten rules", takePaper(x, "E00E00E00E00E00E00E00E00E00E00"), 10);
    due("eleven", takePaper(x, "E01E01E01E01E01E01E01E01E01E01E01"), STATE);
    due("whose", x.whose(3), 0);
    x.wipe();
    due("none again", x.paper(), 0);
    due("whose", x.whose(3), 2);
  }

  private static void promise6() {
    promise = 6;
    TwoHousesOneChild x = of("Y010201");
    due("year", x.year(0), 1);
    due("whose in an even one", x.whose(10), 0);
    due("year", x.year(99), 0);
    due("whose in an odd one", x.whose(10), 1);
    for (int y : new int[] {-1, 100, LOW, HIGH}) due("year " + y, x.year(y), OUTSIDE);
    due("year", x.year(4), 99);
    due("says", x.says(0, 20), 0);
    due("behind it", x.whose(21), 2);
    due("ahead of it", x.whose(9), 2);
  }

  private static void promise7() {
    promise = 7;
    TwoHousesOneChild x = of("W52311F000091E91W52310");
    for (int n = 0; n < 56; n++) {
      boolean weekly = n == 9 || n == 30 || n == 51;
      due("whose " + n, x.whose(n), n <= 9 ? 1 : weekly ? 3 : 1);
    }
    x = of("H110150H120220W16401");
    StringBuilder got = new StringBuilder();
    for (int n = 0; n < 34; n++) got.append(x.whose(n));
    same("whose", got.toString(), "2222221222000111222200122222222222");
    due("of the weeks the fifth", x.whose(34), 1);
    due("not the fourth", x.whose(27), 2);
    due("a half of one", of("H030301").whose(30), 1);
    due("rank before number", of("E10E01").whose(0), 1);
    due("three alike", of("E10E10E10").whose(0), 0);
    due("two and one", of("E10E11E10").whose(0), 3);
    for (int n : new int[] {-1, 56, LOW, HIGH}) due("whose " + n, x.whose(n), UNKNOWN);
  }

  private static void promise8() {
    promise = 8;
    TwoHousesOneChild x = of("E30F105101E10F105200E31");
    due("words 5", x.words(5), 14);
    due("words 4", x.words(4), 4);
    due("words 10", x.words(10), 14);
    due("words 11", x.words(11), 12);
    due("words 21", x.words(21), 4);
    due("a rank's own", of("E30E31F405101").words(7), 3);
    due("none", of("F405101").words(11), 0);
    due("the tenth", of("E90E90E90E90E90E90E90E90E90E80").words(0), 512);
    for (int n : new int[] {-1, 56, LOW, HIGH}) due("words " + n, x.words(n), UNKNOWN);
  }

  private static void promise9() {
    promise = 9;
    TwoHousesOneChild x = of("W06321F010120H110140Y110141E90");
    due("weekday 6 in week 2", x.says(0, 20), 1);
    due("week 5", x.says(0, 41), 1);
    due("week 3", x.says(0, 27), NONE);
    due("weekday 5", x.says(0, 19), NONE);
    due("from", x.says(1, 10), 0);
    due("to", x.says(1, 12), 0);
    due("ahead", x.says(1, 9), NONE);
    due("behind", x.says(1, 13), NONE);
    due("first half of five", x.says(2, 12), 0);
    due("the rest", x.says(2, 13), 1);
    due("odd", x.says(3, 14), 1);
    x.year(2);
    due("even", x.says(3, 14), 0);
    due("halves have no year", x.says(2, 13), 1);
    due("all", x.says(4, 55), 0);
    for (int r : new int[] {-1, 5, 10, LOW, HIGH}) due("says rule " + r, x.says(r, 0), UNKNOWN);
    for (int n : new int[] {-1, 56, LOW, HIGH}) due("says night " + n, x.says(0, n), UNKNOWN);
  }

  private static void promises10And11() {
    promise = 10;
    TwoHousesOneChild x = of("F100090F105141F220291");
    due("nights of 0", x.nights(0), 5);
    due("nights of 1", x.nights(1), 15);
    due("open", x.nights(2), 31);
    due("fights", x.nights(3), 5);
    for (int w : new int[] {-1, 4, LOW, HIGH}) due("nights " + w, x.nights(w), OUTSIDE);
    promise = 11;
    due("first of 0", x.night(0, 0), 0);
    due("last of 0", x.night(0, 4), 4);
    due("none of 0", x.night(0, 5), NONE);
    due("of 1", x.night(1, 5), 20);
    due("first open", x.night(2, 0), 15);
    due("last open", x.night(2, 30), 55);
    due("first fight", x.night(3, 0), 5);
    due("last fight", x.night(3, 4), 9);
    for (int i : new int[] {-1, 5, LOW, HIGH}) due("night of fights " + i, x.night(3, i), NONE);
    for (int w : new int[] {-1, 4, LOW, HIGH}) due("night " + w, x.night(w, 0), OUTSIDE);
  }

  private static void mendsTo(String paper, int rules, int changes) {
    TwoHousesOneChild x = of(paper);
    String before = seen(x);
    promise = 12;
    due("mend " + paper, x.mend(), rules);
    promise = 13;
    due("changes " + paper, x.changes(), changes);
    same("what is seen", seen(x), before);
  }

  private static void promises12And13() {
    mendsTo("", 0, 0);
    mendsTo("E00E11", 0, 0);
    mendsTo("E10E10", 0, 0);
    // of two single ones the one by which fewer NIGHTS are told otherwise
    mendsTo("F100200F120301", 2, 10);
    mendsTo("F115200F120551", 1, 5);
    // like ones: the least as bits
    mendsTo("E10E11", 1, 0);
    mendsTo("F100100F110201", 1, 10);
    // fewer RULES go ahead of fewer changes
    mendsTo("F100100F110551F155550", 2, 44);
    mendsTo("E11F000540E10F000540", 1, 0);
    // under a FIGHT lies another one, which comes out
    mendsTo("F000091F005140F100041F100040", 2, 5);
    // a NIGHT that is OPEN then is told otherwise too, one that FIGHTS now is not counted
    mendsTo("F100100F105051", 2, 0);
    mendsTo("F105050F105101", 1, 0);
    mendsTo("E11E10E11E10E11E10E11E10E11E10", 341, 0);
    // each two of the ten fight: nine have to go
    mendsTo("E00E01H000100H000120H000140H000160H000180H000200H000220H000240", 511, 0);
    due("changes, asked first", of("F100200F120301").changes(), 10);
    TwoHousesOneChild x = of("Y000100F000101");
    due("in an odd year", x.mend(), 1);
    x.year(2);
    due("in an even year", x.mend(), 0);
  }

  private static void promises14And15() {
    promise = 14;
    TwoHousesOneChild x = fresh();
    due("put", x.put(0, 1), 0);
    due("put", x.put(55, 1), 0);
    due("put again", x.put(55, 1), 1);
    due("put back", x.put(55, 0), 1);
    String before = seen(x);
    for (int n : new int[] {-1, 56, 64, LOW, HIGH}) due("put " + n, x.put(n, 1), UNKNOWN);
    for (int h : new int[] {-1, 2, LOW, HIGH}) due("put at " + h, x.put(3, h), UNKNOWN);
    same("what is seen", seen(x), before);
    promise = 15;
    due("at", x.at(0), 1);
    due("at", x.at(1), 0);
    due("at", x.at(55), 0);
    for (int n : new int[] {-1, 56, 64, LOW, HIGH}) due("at " + n, x.at(n), UNKNOWN);
  }

  private static void promise16() {
    promise = 16;
    TwoHousesOneChild x = of("F110191F120290F115161F215150F140410F140411");
    due("judge", x.judge(), 10);
    for (int n = 10; n < 20; n++) x.put(n, 1);
    due("judge", x.judge(), NONE);
    x.put(40, 1);
    x.put(30, 1);
    due("open and fighting nights are free", x.judge(), NONE);
    x.put(29, 1);
    due("judge", x.judge(), 29);
    x.put(19, 0);
    due("judge", x.judge(), 19);
    due("without a paper", fresh().judge(), NONE);
  }

  private static void promise17() {
    promise = 17;
    TwoHousesOneChild x = fresh();
    int[] all = {56, 0, 0, 56, 0};
    for (int w = 0; w < 5; w++) due("counts " + w, x.counts(w), all[w]);
    plan(x, "11011100001");
    int[] some = {50, 6, 5, 45, 3};
    for (int w = 0; w < 5; w++) due("counts " + w, x.counts(w), some[w]);
    for (int n = 0; n < 56; n++) x.put(n, 1);
    int[] ones = {0, 56, 0, 0, 56};
    for (int w = 0; w < 5; w++) due("counts " + w, x.counts(w), ones[w]);
    for (int n = 0; n < 56; n++) x.put(n, n % 2);
    int[] turns = {28, 28, 55, 1, 1};
    for (int w = 0; w < 5; w++) due("counts " + w, x.counts(w), turns[w]);
    for (int w : new int[] {-1, 5, LOW, HIGH}) due("counts " + w, x.counts(w), OUTSIDE);
  }

  private static void promise18() {
    promise = 18;
    TwoHousesOneChild x = fresh();
    due("wish", x.wish(14, 9, 8), 5011);
    due("wish", x.wish(1, 0, 0), 14098);
    int[][] out = {{0, 1, 1}, {15, 1, 1}, {LOW, 1, 1}, {HIGH, 1, 1}, {5, -1, 1}, {5, 10, 1}, {5, LOW, 1}, {5, 1, -1}, {5, 1, 10}, {5, 1, HIGH}};
    for (int[] w : out) due("wish out", x.wish(w[0], w[1], w[2]), OUTSIDE);
    due("wish", x.wish(5, 1, 1), 1000);
  }

  private static void promises19And20() {
    promise = 19;
    TwoHousesOneChild x = fresh();
    for (int n : new int[] {-1, 56, LOW, HIGH}) due("want night " + n, x.want(n, 0, 0), UNKNOWN);
    for (int h : new int[] {-1, 2, LOW, HIGH}) due("want house " + h, x.want(0, h, 0), UNKNOWN);
    for (int w : new int[] {0, 10, -1, LOW, HIGH}) due("want weight " + w, x.want(0, 0, w), OUTSIDE);
    due("wants", x.count(2), 0);
    for (int i = 0; i < 12; i++) due("want", x.want(7, i % 2, 1 + i % 9), i);
    due("one more", x.want(0, 0, 1), FULL);
    due("refusals in their order", x.want(0, 0, 10), OUTSIDE);
    due("refusals in their order", x.want(56, 0, 10), UNKNOWN);
    due("wants", x.count(2), 12);
    x.wish(14, 0, 0);
    due("they add up", x.cost(), 2 + 4 + 6 + 8 + 1 + 3);
    promise = 20;
    due("unwant", x.unwant(), 12);
    due("unwant", x.unwant(), 0);
    due("wants", x.count(2), 0);
    due("cost", x.cost(), 0);
    due("a first one", x.want(0, 1, 9), 0);
    due("cost", x.cost(), 9);
    due("unwant", x.unwant(), 1);
    due("cost", x.cost(), 0);
  }

  private static void promise21() {
    promise = 21;
    TwoHousesOneChild x = fresh();
    due("runs of more than 5", x.cost(), 51);
    x.wish(14, 3, 1);
    due("runs of more than 14", x.cost(), 3 * 42);
    plan(x, "00000111111011110");
    x.wish(5, 7, 2);
    // handings at 5, 11, 12, 16; runs of 5, 6, 1, 4 and 40 nights
    due("handings and runs", x.cost(), 4 * 2 + 7 * (1 + 35));
    x.wish(1, 1, 0);
    due("runs of more than 1", x.cost(), 4 + 5 + 3 + 39);
    x.wish(1, 0, 0);
    x.want(5, 1, 4);
    x.want(5, 0, 3);
    x.want(55, 1, 2);
    due("wants", x.cost(), 5);
    due("the paper is not asked", takePaper(x, "E01"), 1);
    due("wants", x.cost(), 5);
  }

  private static void promises22To24() {
    promise = 22;
    TwoHousesOneChild x = fresh();
    due("best", x.best(), 11);
    due("the plan is as it was", x.count(3), 0);
    due("cost", x.cost(), 51);
    x.wish(2, 9, 1);
    due("best in runs of 2", x.best(), 27);
    x.wish(14, 9, 0);
    due("free handings", x.best(), 0);
    promise = 24;
    due("take", x.take(), 3);
    // the first of those without a long RUN: 14 at HOUSE 0, then as seldom as can be at HOUSE 1
    same("plan", planOf(x), ("0".repeat(14) + "1").repeat(3) + "0".repeat(11));
    promise = 23;
    x = of("F000060F007131F121271F121270");
    x.wish(14, 0, 9);
    String row = "0".repeat(7) + "1".repeat(49);
    for (int n = 0; n < 56; n++) due("bestAt " + n, x.bestAt(n), row.charAt(n) - '0');
    due("the plan is as it was", x.counts(0), 56);
    x.wish(7, 1, 2);
    row = "0".repeat(7) + "1".repeat(7) + "0000000" + "1111111" + "0000000" + "1111111" + "0000000" + "1111111";
    for (int n = 0; n < 56; n++) due("bestAt " + n, x.bestAt(n), row.charAt(n) - '0');
    for (int n : new int[] {-1, 56, LOW, HIGH}) due("bestAt " + n, x.bestAt(n), UNKNOWN);
  }

  private static void bestPlans() {
    promise = 24;
    TwoHousesOneChild x = fresh();
    x.want(3, 1, 9);
    x.want(4, 0, 9);
    x.wish(14, 0, 1);
    // one HANDING is less than two, though the PLAN with two is ahead by HOUSES
    due("take", x.take(), 4);
    same("plan", planOf(x), "1111" + "0".repeat(52));
    x.want(5, 1, 1);
    due("a weight is as dear as a handing", x.best(), 2);
    due("the first of like ones", x.take(), 0);
    x = of("F010100F020201");
    x.wish(14, 0, 5);
    due("the late handing is the first", x.take(), 36);
    same("plan", planOf(x), "0".repeat(20) + "1".repeat(36));
    due("cost", x.cost(), 5);
    x.put(55, 0);
    due("take", x.take(), 1);
    x = of("E01");
    x.wish(14, 0, 5);
    x.want(8, 0, 9);
    due("decided ones are so, whatever is wanted", x.best(), 9);
    due("take", x.take(), 56);
    due("judge", x.judge(), NONE);
    x = of("E01E00");
    due("what fights is free", x.best(), 11);
    x = fresh();
    x.wish(1, 0, 0);
    x.want(0, 1, 1);
    due("night 0 can be at 1", x.bestAt(0), 1);
    due("and night 1 is at 0", x.bestAt(1), 0);
    x = of("F001551F000000F000001");
    x.wish(14, 0, 2);
    x.want(0, 0, 2);
    due("of like ones that with night 0 at 0", x.bestAt(0), 0);
    x.wish(14, 0, 3);
    due("a handing is dearer", x.bestAt(0), 1);
    due("best", x.best(), 2);
    x.want(0, 0, 9);
    due("now it is not", x.best(), 3);
    x = of("F000001");
    x.wish(2, 1, 9);
    due("a run from night 0 on", x.best(), 54);
    due("take", x.take(), 56);
  }

  private static void promises25And26() {
    promise = 25;
    TwoHousesOneChild x = fresh();
    for (int n = 1; n <= 8; n++) due("near " + n, x.near(n), 0);
    for (int n : new int[] {0, 9, LOW, HIGH}) due("near " + n, x.near(n), OUTSIDE);
    for (int n = 0; n < 56; n++) x.put(n, n / 7 % 2);
    int[] weekly = {28, 0, 21, 0, 21, 0, 7, 0};
    for (int n = 1; n <= 8; n++) due("near " + n, x.near(n), weekly[n - 1]);
    promise = 26;
    due("brief", x.brief(0), 2);
    due("brief", x.brief(27), 2);
    due("brief", x.brief(28), 1);
    due("brief", x.brief(56), 1);
    for (int b : new int[] {-1, 57, LOW, HIGH}) due("brief " + b, x.brief(b), OUTSIDE);
    x.put(0, 1);
    due("near 2", x.near(2), 1);
    due("near 7", x.near(7), 6);
    due("brief", x.brief(0), 8);
    due("brief", x.brief(1), 2);
  }

  private static void promise27() {
    promise = 27;
    TwoHousesOneChild x = fresh();
    due("both at one", x.swap(0, 1), STATE);
    due("the same", x.swap(0, 0), STATE);
    x.wish(14, 0, 3);
    x.put(10, 1);
    due("swap", x.swap(10, 55), 997);
    due("at", x.at(10), 0);
    due("at", x.at(55), 1);
    due("swap back", x.swap(10, 55), 1003);
    x.want(10, 1, 9);
    due("with a want", x.swap(20, 10), 1009);
    String before = seen(x);
    for (int n : new int[] {-1, 56, LOW, HIGH}) {
      due("swap " + n, x.swap(n, 0), UNKNOWN);
      due("swap with " + n, x.swap(0, n), UNKNOWN);
    }
    due("both at 0", x.swap(0, 1), STATE);
    same("what is seen", seen(x), before);
  }

  private static void promises28And29() {
    promise = 28;
    TwoHousesOneChild x = of("F110190F120291F140410F140411");
    plan(x, "0000000000" + "1110000000" + "0011111111");
    x.put(40, 1);
    x.put(35, 1);
    int[] nights = {9, 10, 11, 12, 13, 19, 20, 21, 22, 55};
    int[] owed = {100, 99, 98, 97, 97, 97, 98, 99, 99, 99};
    for (int i = 0; i < nights.length; i++) due("owed " + nights[i], x.owed(nights[i]), owed[i]);
    for (int n : new int[] {-1, 56, LOW, HIGH}) due("owed " + n, x.owed(n), UNKNOWN);
    promise = 29;
    due("even", x.even(), NONE);
    x.put(25, 0);
    due("even", x.even(), 25);
    x.put(10, 0);
    due("even no more", x.even(), NONE);
    x.put(21, 1);
    due("even", x.even(), 25);
    due("owed", x.owed(20), 99);
    x.put(25, 1);
    x.put(20, 1);
    x.put(11, 0);
    x.put(12, 0);
    due("even", x.even(), 0);
    x.put(29, 0);
    due("at the last of all it is not", x.even(), NONE);
    x.put(19, 1);
    due("even", x.even(), 29);
    due("even at the last night", evenAtLast(), 55);
  }

  private static int evenAtLast() {
    TwoHousesOneChild x = of("F000000F055551");
    x.put(0, 1);
    return x.even();
  }

  private static void promise30() {
    promise = 30;
    TwoHousesOneChild x = fresh();
    due("it is there", x.wedding(5, 0), NONE);
    due("there is none", x.wedding(5, 1), NONE);
    x.wish(14, 0, 1);
    x.put(20, 1);
    due("14 behind", x.wedding(6, 1), 20);
    due("15 behind", x.wedding(5, 1), NONE);
    due("14 ahead", x.wedding(34, 1), 20);
    due("15 ahead", x.wedding(35, 1), NONE);
    x.put(30, 1);
    x.put(31, 1);
    // 20 alone gives up two HANDINGS, 31 none
    due("the cheapest", x.wedding(25, 1), 20);
    x.put(20, 0);
    due("of like ones the least", x.wedding(25, 1), 30);
    due("to the other house", x.wedding(30, 0), 32);
    x.want(30, 1, 5);
    due("by wants", x.wedding(25, 1), 31);
    String before = planOf(x);
    for (int n : new int[] {-1, 56, LOW, HIGH}) due("wedding " + n, x.wedding(n, 0), UNKNOWN);
    for (int h : new int[] {-1, 2, LOW, HIGH}) due("wedding at " + h, x.wedding(0, h), UNKNOWN);
    same("plan", planOf(x), before);
    x = fresh();
    x.put(0, 1);
    x.put(55, 1);
    // the RUN of NIGHTS at HOUSE 0 is parted: no part of less than 5 NIGHTS, so that most is saved
    due("at the first night", x.wedding(0, 0), 5);
    due("at the last night", x.wedding(55, 0), 41);
    due("the first night goes", x.wedding(3, 1), 0);
    due("the last night goes", x.wedding(50, 1), 55);
  }

  private static void promises31And32() {
    promise = 31;
    TwoHousesOneChild x = of("F110191F130391E90");
    plan(x, "0000000000" + "1".repeat(10) + "0".repeat(10) + "1".repeat(10));
    for (int n : new int[] {-1, 56, LOW, HIGH}) due("late " + n, x.late(n, 0), UNKNOWN);
    for (int m : new int[] {0, 100, -1, LOW, HIGH}) due("late by " + m, x.late(11, m), OUTSIDE);
    for (int n : new int[] {0, 1, 11, 21, 55}) due("no handing " + n, x.late(n, 5), STATE);
    due("nothing is paid", x.fines(0, false) + x.fines(1, false) + x.fines(0, true) + x.fines(1, true), 0);
    due("first", x.late(10, 1), NONE);
    due("fines", x.fines(1, false), 1);
    due("second", x.late(10, 10), NONE);
    due("fines", x.fines(1, false), 2);
    due("the other house has its own times", x.late(20, 11), NONE);
    due("third", x.late(10, 99), 11);
    due("lost", x.at(11), 0);
    promise = 32;
    due("fines of 1", x.fines(1, false), 12);
    due("times of 1", x.fines(1, true), 3);
    due("fines of 0", x.fines(0, false), 2);
    due("times of 0", x.fines(0, true), 1);
    for (int h : new int[] {-1, 2, LOW, HIGH}) {
      due("times of " + h, x.fines(h, true), UNKNOWN);
      due("fines of " + h, x.fines(h, false), UNKNOWN);
    }
    promise = 31;
    due("fourth, 11 is at 0 now", x.late(12, 5), NONE);
    due("fifth", x.late(10, 5), NONE);
    due("sixth, only its own nights", x.late(30, 20), 31);
    due("lost", x.at(31), 0);
    due("a second of 0", x.late(40, 30), NONE);
    due("a third of 0", x.late(20, 31), 21);
    due("lost", x.at(21), 1);
    due("fines of 0", x.fines(0, false), 2 + 3 + 4);
    x = of("F010100F111111");
    x.put(11, 1);
    for (int i = 0; i < 2; i++) due("late", x.late(11, 5), NONE);
    due("a third time, no night behind it", x.late(11, 5), NONE);
    due("times", x.fines(1, true), 3);
    due("at", x.at(11), 1);
    // night 10 is DECIDED, but it lies ahead
    for (int i = 0; i < 2; i++) due("late", x.late(12, 5), NONE);
    due("a third time, no night behind it", x.late(12, 5), NONE);
    due("at", x.at(10), 0);
  }

  private static void promises33And34() {
    promise = 33;
    TwoHousesOneChild x = of("F100061F107130F114201F114200");
    due("move", x.move(46), 5);
    due("move", x.move(45), 0);
    due("move", x.move(99), 5);
    due("move", x.move(0), 0);
    for (int m : new int[] {-1, 100, LOW, HIGH}) due("move " + m, x.move(m), OUTSIDE);
    int[] school = {1, 1, 1, 1, 0, 0, 1};
    for (int d = 0; d < 7; d++) due("weekday " + d, of("W0" + d + "101").move(60), school[d] * 8);
    promise = 34;
    x.wish(14, 0, 1);
    due("then", x.then(45), x.best());
    due("then", x.then(0), 1);
    due("then", x.then(99), 2);
    due("best", x.best(), 1);
    due("then", x.then(46), 2);
    due("nothing has changed", x.best(), 1);
    due("decided for 1", x.whose(0), 1);
    for (int m : new int[] {-1, 100, LOW, HIGH}) due("then " + m, x.then(m), OUTSIDE);
    x = of("E01");
    x.wish(1, 9, 0);
    due("all at 1, but for school", x.then(60), 9 * (3 + 8 * 1 + 7 * 4));
  }

  private static void promise35() {
    promise = 35;
    TwoHousesOneChild x = of("F100091F110190F140490F140491Y150550");
    due("none was kept", x.together(0, false), STATE);
    x.keep(1);
    due("the other slot", x.together(0, true), STATE);
    due("with oneself", x.together(1, false), 26);
    due("at most", x.together(1, true), 56);
    takePaper(x, "F105141F140550F130311F130310");
    due("alike", x.together(1, false), 5 + 6);
    due("at most", x.together(1, true), 56 - 5);
    x.year(2);
    due("by the year", x.together(1, false), 5);
    due("by the year", x.together(1, true), 56 - 5 - 6);
    for (int s : new int[] {-1, 2, LOW, HIGH}) due("together " + s, x.together(s, true), UNKNOWN);
  }

  private static void promise36() {
    promise = 36;
    due("years", fresh().years(), 200);
    due("years", of("E00").years(), 312);
    due("years", of("E01").years(), 88);
    due("years", of("Y000551").years(), 200);
    // odd: 10 FIGHT; even: 10 alike for HOUSE 0
    TwoHousesOneChild x = of("Y100091F100090F120210");
    due("years", x.years(), 200 + 2 + 2 + 10);
    x.year(2);
    due("the year stays out of it", x.years(), 214);
    due("year", x.year(1), 2);
  }

  private static void promises37And38() {
    promise = 37;
    TwoHousesOneChild x = of("F010191F030391");
    plan(x, "0000000000" + "1".repeat(10));
    for (int i = 0; i < 3; i++) x.late(10, 15);
    due("lost", x.at(11), 0);
    due("keep", x.keep(0), 2);
    for (int s : new int[] {-1, 2, LOW, HIGH}) {
      due("keep " + s, x.keep(s), UNKNOWN);
      due("again " + s, x.again(s), UNKNOWN);
    }
    due("again", x.again(1), STATE);
    String plan = planOf(x);
    promise = 38;
    due("another paper", takePaper(x, "E00"), 1);
    x.year(2);
    x.wish(3, 2, 1);
    x.want(0, 1, 9);
    x.put(0, 1);
    x.put(55, 1);
    x.late(1, 50);
    x.late(10, 50);
    due("keep", x.keep(1), 1);
    due("again", x.again(0), 2);
    same("plan", planOf(x), plan);
    due("whose", x.whose(39), 1);
    due("rules", x.count(1), 2);
    due("times", x.fines(1, true), 3);
    due("fines", x.fines(1, false), 6);
    due("times", x.fines(0, true), 0);
    due("fines", x.fines(0, false), 0);
    due("the text is not kept", x.count(0), 3);
    due("wants are not kept", x.count(2), 1);
    due("wishes are not kept", x.wish(5, 1, 1), 3021);
    due("the year is not kept", x.year(1), 2);
    x.put(5, 1);
    x.late(5, 5);
    due("what comes behind does not change what is kept", x.again(0), 2);
    same("plan", planOf(x), plan);
    due("times", x.fines(1, true), 3);
    due("again", x.again(1), 1);
    due("whose", x.whose(39), 0);
    due("at", x.at(55), 1);
    due("times", x.fines(1, true), 4);
    due("fines", x.fines(0, false), 5);
    due("ranks are kept", keptRanks(), 1);
    due("kept anew", x.keep(0), 1);
    x.put(55, 0);
    due("again", x.again(0), 1);
    due("at", x.at(55), 1);
  }

  private static int keptRanks() {
    TwoHousesOneChild x = of("E50E31E70");
    x.keep(1);
    takePaper(x, "E11E11E11Y000550");
    x.again(1);
    return x.whose(9);
  }

  private static void promise39() {
    promise = 39;
    TwoHousesOneChild x = of("F100091F105141F120290F120291");
    write(fresh(), "E0");
    x.write(2, 0);
    x.want(0, 0, 1);
    due("bytes", x.count(0), 30);
    due("rules", x.count(1), 4);
    due("wants", x.count(2), 1);
    due("not as decided", x.count(3), 15);
    x.put(0, 1);
    x.put(20, 1);
    x.put(50, 1);
    due("not as decided", x.count(3), 14);
    for (int w : new int[] {-1, 4, LOW, HIGH}) due("count " + w, x.count(w), OUTSIDE);
  }

  public static void main(String[] args) {
    promise1();
    promise2();
    promise3();
    promise4();
    promise5();
    promise6();
    promise7();
    promise8();
    promise9();
    promises10And11();
    promises12And13();
    promises14And15();
    promise16();
    promise17();
    promise18();
    promises19And20();
    promise21();
    promises22To24();
    bestPlans();
    promises25And26();
    promise27();
    promises28And29();
    promise30();
    promises31And32();
    promises33And34();
    promise35();
    promise36();
    promises37And38();
    promise39();
    System.out.println(wrong == 0 ? "all promises hold" : wrong + " answers are not as due");
    if (wrong != 0) System.exit(1);
  }
}
