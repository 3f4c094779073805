import java.lang.reflect.InvocationTargetException;
import java.lang.reflect.Method;
import java.util.Arrays;
import java.util.Comparator;
import java.util.List;
import java.util.function.Consumer;
import java.util.function.Function;
import java.util.function.ToIntFunction;

/** What the tests of edges have in common: counted calls, and refused ones that must change nothing. */
abstract class Trial {
  static final int UNKNOWN = -1, OUTSIDE = -2, STATE = -3, FULL = -4, NONE = -9;
  static final int LOW = Integer.MIN_VALUE, HIGH = Integer.MAX_VALUE;
  private static final int MOST_CALLS = 512;
  private static int wrong = 0;
  private static String running = "";

  /** An object of the class that is used for no more calls than the document allows. */
  static final class Child {
    private final TwoHousesOneChild inside = new TwoHousesOneChild();
    private int calls = 0;

    private TwoHousesOneChild next() {
      calls++;
      if (calls == MOST_CALLS + 1) tellWrong("the test makes more than " + MOST_CALLS + " calls");
      return inside;
    }

    int calls() { return calls; }
    int write(int n, long v) { return next().write(n, v); }
    int wipe() { return next().wipe(); }
    int fault() { return next().fault(); }
    int paper() { return next().paper(); }
    int year(int year) { return next().year(year); }
    int whose(int night) { return next().whose(night); }
    int words(int night) { return next().words(night); }
    int says(int rule, int night) { return next().says(rule, night); }
    int nights(int what) { return next().nights(what); }
    int night(int what, int i) { return next().night(what, i); }
    int mend() { return next().mend(); }
    int changes() { return next().changes(); }
    int put(int night, int house) { return next().put(night, house); }
    int at(int night) { return next().at(night); }
    int judge() { return next().judge(); }
    int counts(int what) { return next().counts(what); }
    int wish(int m, int a, int j) { return next().wish(m, a, j); }
    int want(int night, int house, int weight) { return next().want(night, house, weight); }
    int unwant() { return next().unwant(); }
    int cost() { return next().cost(); }
    int best() { return next().best(); }
    int bestAt(int night) { return next().bestAt(night); }
    int take() { return next().take(); }
    int near(int n) { return next().near(n); }
    int brief(int x) { return next().brief(x); }
    int swap(int night, int other) { return next().swap(night, other); }
    int owed(int night) { return next().owed(night); }
    int even() { return next().even(); }
    int wedding(int night, int house) { return next().wedding(night, house); }
    int late(int night, int minutes) { return next().late(night, minutes); }
    int fines(int house, boolean times) { return next().fines(house, times); }
    int move(int minutes) { return next().move(minutes); }
    int then(int minutes) { return next().then(minutes); }
    int together(int slot, boolean most) { return next().together(slot, most); }
    int years() { return next().years(); }
    int keep(int slot) { return next().keep(slot); }
    int again(int slot) { return next().again(slot); }
    int count(int what) { return next().count(what); }
  }

  private static void tellWrong(String what) {
    wrong++;
    System.out.println(running + ": " + what);
  }

  static void due(String call, long got, long want) {
    if (got != want) tellWrong(call + " answered " + got + ", due is " + want);
  }

  static void same(String what, String got, String want) {
    if (!got.equals(want)) tellWrong(what + " is " + got + ", due is " + want);
  }

  // ---- how a child comes to be as a test needs it

  static void tell(Child x, String text) {
    for (int from = 0; from < text.length(); from += 8) {
      int n = Math.min(8, text.length() - from);
      long v = 0;
      for (int i = 0; i < n; i++) v = v << 8 | text.charAt(from + i) & 0xFF;
      if (x.write(n, v) < 0) tellWrong("the text has no room: " + text);
    }
  }

  static void give(Child x, String paper) {
    x.wipe();
    tell(x, paper);
    if (x.paper() < 0) tellWrong("no paper: " + paper);
  }

  static Child of(String paper) {
    Child x = new Child();
    give(x, paper);
    return x;
  }

  /** The PLAN from NIGHT 0 on; NIGHTS behind the text stay as they are. */
  static void plan(Child x, String houses) {
    for (int n = 0; n < houses.length(); n++) x.put(n, houses.charAt(n) - '0');
  }

  static String planOf(Child x) {
    StringBuilder row = new StringBuilder();
    for (int n = 0; n < 56; n++) row.append(x.at(n));
    return row.toString();
  }

  static String whoseOf(Child x) {
    StringBuilder row = new StringBuilder();
    for (int n = 0; n < 56; n++) row.append(x.whose(n));
    return row.toString();
  }

  /** All that an object holds is unlike what it held at first, and unlike in both SLOTS. */
  static void busy(Child x) {
    give(x, "W16211F010190E90");
    x.wish(4, 3, 2);
    x.want(0, 1, 4);
    x.want(11, 0, 9);
    x.want(55, 1, 1);
    for (int n : new int[] {6, 7, 20, 55}) x.put(n, 1);
    x.late(6, 25);
    x.late(8, 11);
    x.keep(0);
    give(x, "H120311F012121Y240490");
    for (int n : new int[] {0, 6, 30, 31}) x.put(n, 1);
    x.late(20, 99);
    x.keep(1);
    give(x, "Y040490W13101E81H300550");
    for (int n : new int[] {3, 12, 42}) x.put(n, 1);
    x.late(12, 1);
    x.late(42, 10);
    x.year(8);
    x.wipe();
    tell(x, "F122330W03311E71");
  }

  static void fresh(Child x) {
  }

  // ---- what can be seen; each look is of its own object, so that it may change what it looks at

  private static final List<Function<Child, String>> LOOKS = List.of(
      Trial::lookAtPlan, Trial::lookAtPaper, Trial::lookAtText, Trial::lookAtWishes, Trial::lookAtSlots, Trial::lookAtLateness);

  private static String lookAtPlan(Child x) {
    StringBuilder all = new StringBuilder("plan ").append(planOf(x));
    for (int what = 0; what <= 4; what++) all.append(' ').append(x.counts(what));
    for (int n = 1; n <= 8; n++) all.append(' ').append(x.near(n));
    for (int n = 0; n < 56; n++) all.append(' ').append(x.owed(n));
    return all.append(' ').append(x.judge()).append(' ').append(x.even()).append(' ').append(x.cost()).toString();
  }

  private static String lookAtPaper(Child x) {
    StringBuilder all = new StringBuilder("paper ").append(whoseOf(x));
    for (int n = 0; n < 56; n++) all.append(' ').append(x.words(n));
    all.append(' ').append(x.count(1)).append(' ').append(x.mend()).append(' ').append(x.changes());
    all.append(' ').append(x.years()).append(" year ").append(x.year(1)).append(' ').append(whoseOf(x));
    x.year(2);
    return all.append(' ').append(whoseOf(x)).append(' ').append(x.count(3)).toString();
  }

  private static String lookAtText(Child x) {
    StringBuilder all = new StringBuilder("text ").append(x.count(0)).append(' ').append(x.fault());
    all.append(' ').append(x.paper()).append(' ').append(whoseOf(x));
    for (int n = 0; n < 56; n++) all.append(' ').append(x.words(n));
    for (int rule = 0; rule <= 10; rule++) for (int n = 0; n < 56; n += 11) all.append(' ').append(x.says(rule, n));
    return all.append(' ').append(x.wipe()).toString();
  }

  private static String lookAtWishes(Child x) {
    StringBuilder all = new StringBuilder("wishes ").append(x.count(2)).append(' ').append(x.cost()).append(' ');
    for (int n = 0; n < 56; n++) all.append(x.bestAt(n));
    all.append(' ').append(x.best()).append(' ').append(x.then(60)).append(' ').append(x.wish(14, 0, 0));
    for (int n = 0; n < 56; n++) {
      x.put(n, 0);
      all.append(' ').append(x.cost());
      x.put(n, 1);
      all.append(' ').append(x.cost());
    }
    return all.append(' ').append(x.unwant()).append(' ').append(x.cost()).toString();
  }

  private static String lookAtSlots(Child x) {
    StringBuilder all = new StringBuilder("slots");
    for (int slot = 0; slot <= 1; slot++) {
      all.append(' ').append(x.together(slot, false)).append(' ').append(x.together(slot, true)).append(' ').append(x.again(slot));
      all.append(' ').append(x.count(1)).append(' ').append(planOf(x)).append(' ').append(whoseOf(x)).append(finesOf(x));
    }
    return all.toString();
  }

  private static String lookAtLateness(Child x) {
    StringBuilder all = new StringBuilder("late").append(finesOf(x));
    x.put(20, 0);
    x.put(21, 1);
    x.put(22, 0);
    for (int i = 0; i < 3; i++) all.append(' ').append(x.late(21, 1)).append(' ').append(x.late(22, 1));
    return all.append(finesOf(x)).toString();
  }

  static String finesOf(Child x) {
    return " " + x.fines(0, false) + " " + x.fines(0, true) + " " + x.fines(1, false) + " " + x.fines(1, true);
  }

  /** A call on a child that was made so answers what is due, and changes nothing that can be seen. */
  static void leaves(String what, Consumer<Child> made, ToIntFunction<Child> call, int want) {
    for (Function<Child, String> look : LOOKS) {
      Child x = new Child(), twin = new Child();
      made.accept(x);
      made.accept(twin);
      due(what, call.applyAsInt(x), want);
      same("behind " + what + " what is seen", look.apply(x), look.apply(twin));
    }
  }

  /** A call that only asks changes nothing that can be seen. */
  static void onlyAsks(String what, ToIntFunction<Child> call) {
    Child before = new Child(), busyBefore = new Child();
    busy(busyBefore);
    leaves(what + " on a new one", Trial::fresh, call, call.applyAsInt(before));
    leaves(what + " on a busy one", Trial::busy, call, call.applyAsInt(busyBefore));
  }

  /** A call is refused, whatever the child was. */
  static void refused(String what, ToIntFunction<Child> call, int want) {
    leaves(what + " on a new one", Trial::fresh, call, want);
    leaves(what + " on a busy one", Trial::busy, call, want);
  }

  /** The first numbers below and above, and those that come back between them by a wrap-around. */
  static int[] beyond(int low, int high) {
    return new int[] {low - 1, high + 1, low - 64, high + 64, low - 256, high + 256, low + LOW, high + LOW, LOW, HIGH};
  }

  // ---- how tests are run

  /** Runs the tests of a class, which bear their promise's number; each promise must have one. */
  static void run(Class<?> tests, int firstPromise, int lastPromise) {
    Method[] all = tests.getDeclaredMethods();
    Arrays.sort(all, Comparator.comparing(Method::getName));
    boolean[] tested = new boolean[lastPromise + 1];
    int many = 0;
    for (Method test : all) {
      if (!test.getName().matches("(promise|term)\\d\\d_\\w+")) continue;
      running = test.getName();
      call(test);
      many++;
      int number = Integer.parseInt(running.replaceAll("\\D*(\\d\\d)_.*", "$1"));
      if (running.startsWith("promise") && number <= lastPromise) tested[number] = true;
    }
    running = tests.getName();
    for (int p = firstPromise; p <= lastPromise; p++) if (!tested[p]) tellWrong("promise " + p + " has no test");
    System.out.println(wrong == 0 ? many + " edges hold" : wrong + " answers are not as due");
    if (wrong != 0) System.exit(1);
  }

  private static void call(Method test) {
    try {
      test.invoke(null);
    } catch (InvocationTargetException thrown) {
      tellWrong("throws " + thrown.getCause());
    } catch (IllegalAccessException hidden) {
      tellWrong("can not be called");
    }
  }
}
