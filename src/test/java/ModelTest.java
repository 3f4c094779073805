import java.util.ArrayList;
import java.util.HashSet;
import java.util.List;
import java.util.Random;
import java.util.Set;

/**
 * Long random runs (of a fixed seed) on the class and on a slow model that is written straight from
 * the document's terms, by other ways than the class: every answer must be the same.
 */
public final class ModelTest {
  private static final int UNKNOWN = -1, OUTSIDE = -2, STATE = -3, FULL = -4, NONE = -9;
  private static final Set<String> RULES = new HashSet<>();
  private static final Set<String> STARTS = new HashSet<>();

  private static void learn(String rule) {
    RULES.add(rule);
    for (int i = 1; i <= rule.length(); i++) STARTS.add(rule.substring(0, i));
  }

  /** Every RULE there is, written out, so that a FAULT is found without a grammar. */
  private static void learnAllRules() {
    for (int r = 0; r <= 9; r++) for (int h = 0; h <= 1; h++) {
      learn("E" + r + h);
      for (int d = 0; d <= 6; d++) for (int n = 1; n <= 4; n++) for (int k = 0; k < n; k++)
        learn("W" + r + d + n + k + h);
      for (int a = 0; a <= 55; a++) for (int b = a; b <= 55; b++) for (String letter : new String[] {"F", "H", "Y"})
        learn(String.format("%s%d%02d%02d%d", letter, r, a, b, h));
    }
  }

  static final class Kept {
    List<String> paper = new ArrayList<>();
    int[] plan = new int[56];
    int[] times = new int[2];
    int[] paid = new int[2];

    Kept copy() {
      Kept k = new Kept();
      k.paper = new ArrayList<>(paper);
      k.plan = plan.clone();
      k.times = times.clone();
      k.paid = paid.clone();
      return k;
    }
  }

  static final class Model {
    StringBuilder text = new StringBuilder();
    Kept now = new Kept();
    Kept[] slots = new Kept[2];
    int year = 1, m = 5, a = 1, j = 1;
    List<int[]> wants = new ArrayList<>();

    static boolean night(int n) { return n >= 0 && n <= 55; }
    static boolean house(int h) { return h == 0 || h == 1; }
    static int number(String s, int from, int to) { return Integer.parseInt(s.substring(from, to)); }

    static int says(String rule, int night, int year) {
      int h = rule.charAt(rule.length() - 1) - '0';
      char letter = rule.charAt(0);
      if (letter == 'E') return h;
      if (letter == 'W') {
        int d = number(rule, 2, 3), n = number(rule, 3, 4), k = number(rule, 4, 5);
        return night % 7 == d && night / 7 % n == k ? h : NONE;
      }
      int from = number(rule, 2, 4), to = number(rule, 4, 6);
      if (night < from || night > to) return NONE;
      if (letter == 'Y') return year % 2 == 1 ? h : 1 - h;
      if (letter == 'H') {
        int all = to - from + 1, first = all / 2 + all % 2;
        return night - from < first ? h : 1 - h;
      }
      return h;
    }

    static int foremost(List<String> paper, int night, int year, int without) {
      int least = 10, bits = 0;
      for (int r = 0; r < paper.size(); r++) {
        if ((without >> r & 1) == 1 || says(paper.get(r), night, year) == NONE) continue;
        int rank = paper.get(r).charAt(1) - '0';
        if (rank < least) { least = rank; bits = 0; }
        if (rank == least) bits |= 1 << r;
      }
      return bits;
    }

    static int whose(List<String> paper, int night, int year, int without) {
      int bits = foremost(paper, night, year, without);
      boolean[] told = new boolean[2];
      for (int r = 0; r < paper.size(); r++) if ((bits >> r & 1) == 1) told[says(paper.get(r), night, year)] = true;
      return told[0] && told[1] ? 3 : told[0] ? 0 : told[1] ? 1 : 2;
    }

    int whose(int night) { return whose(now.paper, night, year, 0); }

    List<String> rulesOf(StringBuilder text, int[] fault) {
      List<String> rules = new ArrayList<>();
      String open = "";
      fault[0] = NONE;
      for (int i = 0; i < text.length(); i++) {
        open = open + text.charAt(i);
        if (!STARTS.contains(open) || rules.size() == 10) { fault[0] = i; return rules; }
        if (RULES.contains(open)) { rules.add(open); open = ""; }
      }
      if (!open.isEmpty()) fault[0] = text.length();
      return rules;
    }

    int[] mending() {
      int[] best = null;
      for (int bits = 0; bits < 1 << now.paper.size(); bits++) {
        int many = Integer.bitCount(bits), changed = 0;
        if (best != null && many > best[1]) continue;
        boolean fights = false;
        for (int n = 0; n < 56 && !fights; n++) {
          int was = whose(n), is = whose(now.paper, n, year, bits);
          if (is == 3) fights = true;
          if (was != 3 && was != is) changed++;
        }
        if (fights) continue;
        if (best == null || many < best[1] || many == best[1] && changed < best[2]) best = new int[] {bits, many, changed};
      }
      return best;
    }

    int cost(int[] plan) {
      int cost = 0;
      for (int n = 0; n < 56; n++) {
        if (n > 0 && plan[n] != plan[n - 1]) cost += j;
        int run = 0;
        for (int i = n; i >= 0 && plan[i] == plan[n]; i--) run++;
        if (run > m) cost += a;
      }
      for (int[] w : wants) if (plan[w[0]] != w[1]) cost += w[2];
      return cost;
    }

    /** From the first NIGHT on, by the COST and the PLAN (as signs) of each HOUSE and full RUN. */
    String bestWithin(int[] must) {
      String[][] plans = new String[2][58];
      int[][] costs = new int[2][58];
      for (int n = 0; n < 56; n++) {
        String[][] nextPlans = new String[2][58];
        int[][] nextCosts = new int[2][58];
        for (int h = 0; h < 2; h++) {
          if (must[n] != 2 && must[n] != h) continue;
          int wanted = 0;
          for (int[] w : wants) if (w[0] == n && w[1] != h) wanted += w[2];
          if (n == 0) offer(nextPlans, nextCosts, h, 1, "" + h, wanted);
          for (int was = 0; was < 2; was++) for (int run = 1; run <= n; run++) {
            if (plans[was][run] == null) continue;
            int is = was == h ? run + 1 : 1;
            int more = wanted + (was == h ? 0 : j) + (is > m ? a : 0);
            offer(nextPlans, nextCosts, h, is, plans[was][run] + h, costs[was][run] + more);
          }
        }
        plans = nextPlans;
        costs = nextCosts;
      }
      String best = null;
      int least = 0;
      for (int h = 0; h < 2; h++) for (int run = 1; run <= 56; run++) {
        if (plans[h][run] == null) continue;
        if (best == null || costs[h][run] < least || costs[h][run] == least && plans[h][run].compareTo(best) < 0) {
          best = plans[h][run];
          least = costs[h][run];
        }
      }
      return best;
    }

    static void offer(String[][] plans, int[][] costs, int h, int run, String plan, int cost) {
      String held = plans[h][run];
      if (held == null || cost < costs[h][run] || cost == costs[h][run] && plan.compareTo(held) < 0) {
        plans[h][run] = plan;
        costs[h][run] = cost;
      }
    }

    int[] best(boolean moved) {
      int[] must = new int[56];
      for (int n = 0; n < 56; n++) {
        int w = whose(n);
        must[n] = w < 2 ? w : 2;
        if (moved && school(n)) must[n] = 0;
      }
      String plan = bestWithin(must);
      int[] houses = new int[56];
      for (int n = 0; n < 56; n++) houses[n] = plan.charAt(n) - '0';
      bruteForce(must, houses);
      return houses;
    }

    /** Where few NIGHTS are free all PLANS are tried, so that the model's own way is looked at too. */
    void bruteForce(int[] must, int[] best) {
      List<Integer> free = new ArrayList<>();
      for (int n = 0; n < 56; n++) if (must[n] == 2) free.add(n);
      if (free.size() > 7) return;
      int[] plan = must.clone(), found = null;
      int least = 0;
      for (int bits = 0; bits < 1 << free.size(); bits++) {
        for (int i = 0; i < free.size(); i++) plan[free.get(i)] = bits >> (free.size() - 1 - i) & 1;
        int cost = cost(plan);
        if (found == null || cost < least) { found = plan.clone(); least = cost; }
      }
      if (!java.util.Arrays.equals(found, best)) throw new IllegalStateException("the model's best is not the best");
    }

    static boolean school(int n) { int d = n % 7; return d == 6 || d <= 3; }

    int near(int weeks) {
      int off = 0;
      for (int r = 0; r < 7 * weeks; r++) {
        int[] c = new int[2];
        for (int n = 0; n < 56; n++) if (n % (7 * weeks) == r) c[now.plan[n]]++;
        off += Math.min(c[0], c[1]);
      }
      return off;
    }

    int owed(int upTo) {
      int owed = 0;
      for (int n = 0; n <= upTo; n++) {
        int w = whose(n);
        if (w == 1 && now.plan[n] == 0) owed++;
        if (w == 0 && now.plan[n] == 1) owed--;
      }
      return owed;
    }

    int even() {
      for (int from = 0; from < 56; from++) {
        boolean all = true;
        for (int n = from; n < 56; n++) all = all && owed(n) == 0;
        if (all) return from;
      }
      return NONE;
    }

    int wedding(int night, int house) {
      if (now.plan[night] == house) return NONE;
      int found = NONE, least = 0;
      for (int o = 0; o < 56; o++) {
        if (Math.abs(o - night) > 14 || now.plan[o] != house) continue;
        int[] plan = now.plan.clone();
        plan[night] = house;
        plan[o] = 1 - house;
        if (found == NONE || cost(plan) < least) { found = o; least = cost(plan); }
      }
      return found;
    }

    int late(int night, int minutes) {
      int h = now.plan[night];
      now.times[h]++;
      now.paid[h] += minutes / 10 + (minutes % 10 == 0 ? 0 : 1);
      if (now.times[h] % 3 != 0) return NONE;
      for (int n = night + 1; n < 56; n++) if (whose(n) == h) { now.plan[n] = 1 - h; return n; }
      return NONE;
    }

    int counts(int what) {
      int ones = 0, handings = 0, run = 0;
      int[] longest = new int[2];
      for (int n = 0; n < 56; n++) {
        ones += now.plan[n];
        boolean handing = n > 0 && now.plan[n] != now.plan[n - 1];
        if (handing) handings++;
        run = handing ? 1 : run + 1;
        longest[now.plan[n]] = Math.max(longest[now.plan[n]], run);
      }
      return new int[] {56 - ones, ones, handings, longest[0], longest[1]}[what];
    }

    int otherwiseThanDecided(boolean first) {
      int many = 0;
      for (int n = 0; n < 56; n++) {
        if (whose(n) < 2 && whose(n) != now.plan[n]) { many++; if (first) return n; }
      }
      return first ? NONE : many;
    }

    int together(int slot, boolean most) {
      int many = 0;
      for (int n = 0; n < 56; n++) {
        int own = whose(n), his = whose(slots[slot].paper, n, year, 0);
        if (most ? own > 1 || his > 1 || own == his : own < 2 && own == his) many++;
      }
      return many;
    }

    int years() {
      int many = 200;
      for (int y = 0; y < 2; y++) for (int n = 0; n < 56; n++) {
        int w = whose(now.paper, n, y, 0);
        if (w < 2) many += w == 0 ? 1 : -1;
      }
      return many;
    }

    int nth(int what, int i) {
      int seen = 0;
      for (int n = 0; n < 56; n++) if (whose(n) == what) { if (seen == i) return n; seen++; }
      return NONE;
    }

    int nights(int what) {
      int many = 0;
      for (int n = 0; n < 56; n++) if (whose(n) == what) many++;
      return many;
    }

    int call(int which, int p, int q, int s, boolean b, long v) {
      int[] fault = new int[1];
      switch (which) {
        case 0:
          if (p < 1 || p > 8) return OUTSIDE;
          if (text.length() + p > 64) return FULL;
          for (int i = p - 1; i >= 0; i--) text.append((char) (v >> 8 * i & 255));
          return text.length();
        case 1: { int was = text.length(); text.setLength(0); return was; }
        case 2: rulesOf(text, fault); return fault[0];
        case 3: {
          List<String> rules = rulesOf(text, fault);
          if (fault[0] != NONE) return STATE;
          now.paper = rules;
          return rules.size();
        }
        case 4: { if (p < 0 || p > 99) return OUTSIDE; int was = year; year = p; return was; }
        case 5: return night(p) ? whose(p) : UNKNOWN;
        case 6: return night(p) ? foremost(now.paper, p, year, 0) : UNKNOWN;
        case 7: return p >= 0 && p < now.paper.size() && night(q) ? says(now.paper.get(p), q, year) : UNKNOWN;
        case 8: return p < 0 || p > 3 ? OUTSIDE : nights(p);
        case 9: return p < 0 || p > 3 ? OUTSIDE : nth(p, q);
        case 10: return mending()[0];
        case 11: return mending()[2];
        case 12: {
          if (!night(p) || !house(q)) return UNKNOWN;
          int was = now.plan[p];
          now.plan[p] = q;
          return was;
        }
        case 13: return night(p) ? now.plan[p] : UNKNOWN;
        case 14: return otherwiseThanDecided(true);
        case 15: return p < 0 || p > 4 ? OUTSIDE : counts(p);
        case 16: {
          if (p < 1 || p > 14 || q < 0 || q > 9 || s < 0 || s > 9) return OUTSIDE;
          int were = 1000 * m + 10 * a + j;
          m = p; a = q; j = s;
          return were;
        }
        case 17:
          if (!night(p) || !house(q)) return UNKNOWN;
          if (s < 1 || s > 9) return OUTSIDE;
          if (wants.size() == 12) return FULL;
          wants.add(new int[] {p, q, s});
          return wants.size() - 1;
        case 18: { int were = wants.size(); wants.clear(); return were; }
        case 19: return cost(now.plan);
        case 20: return cost(best(false));
        case 21: return night(p) ? best(false)[p] : UNKNOWN;
        case 22: {
          int[] best = best(false);
          int other = 0;
          for (int n = 0; n < 56; n++) if (best[n] != now.plan[n]) other++;
          now.plan = best;
          return other;
        }
        default: return later(which, p, q, b);
      }
    }

    int later(int which, int p, int q, boolean b) {
      switch (which) {
        case 23: return p < 1 || p > 8 ? OUTSIDE : near(p);
        case 24: {
          if (p < 0 || p > 56) return OUTSIDE;
          int n = 1;
          while (near(n) > p) n++;
          return n;
        }
        case 25: {
          if (!night(p) || !night(q)) return UNKNOWN;
          if (now.plan[p] == now.plan[q]) return STATE;
          int was = cost(now.plan), h = now.plan[p];
          now.plan[p] = now.plan[q];
          now.plan[q] = h;
          return cost(now.plan) - was + 1000;
        }
        case 26: return night(p) ? owed(p) + 100 : UNKNOWN;
        case 27: return even();
        case 28: return night(p) && house(q) ? wedding(p, q) : UNKNOWN;
        case 29:
          if (!night(p)) return UNKNOWN;
          if (q < 1 || q > 99) return OUTSIDE;
          if (p == 0 || now.plan[p] == now.plan[p - 1]) return STATE;
          return late(p, q);
        case 30: return house(p) ? (b ? now.times[p] : now.paid[p]) : UNKNOWN;
        case 31: {
          if (p < 0 || p > 99) return OUTSIDE;
          int many = 0;
          for (int n = 0; n < 56; n++) if (p > 45 && school(n) && whose(n) == 1) many++;
          return many;
        }
        case 32: return p < 0 || p > 99 ? OUTSIDE : cost(best(p > 45));
        case 33: return !house(p) ? UNKNOWN : slots[p] == null ? STATE : together(p, b);
        case 34: return years();
        case 35:
          if (!house(p)) return UNKNOWN;
          slots[p] = now.copy();
          return now.paper.size();
        case 36:
          if (!house(p)) return UNKNOWN;
          if (slots[p] == null) return STATE;
          now = slots[p].copy();
          return now.paper.size();
        default:
          if (p < 0 || p > 3) return OUTSIDE;
          return p == 0 ? text.length() : p == 1 ? now.paper.size() : p == 2 ? wants.size() : otherwiseThanDecided(false);
      }
    }
  }

  static int call(TwoHousesOneChild x, int which, int p, int q, int s, boolean b, long v) {
    switch (which) {
      case 0: return x.write(p, v);
      case 1: return x.wipe();
      case 2: return x.fault();
      case 3: return x.paper();
      case 4: return x.year(p);
      case 5: return x.whose(p);
      case 6: return x.words(p);
      case 7: return x.says(p, q);
      case 8: return x.nights(p);
      case 9: return x.night(p, q);
      case 10: return x.mend();
      case 11: return x.changes();
      case 12: return x.put(p, q);
      case 13: return x.at(p);
      case 14: return x.judge();
      case 15: return x.counts(p);
      case 16: return x.wish(p, q, s);
      case 17: return x.want(p, q, s);
      case 18: return x.unwant();
      case 19: return x.cost();
      case 20: return x.best();
      case 21: return x.bestAt(p);
      case 22: return x.take();
      case 23: return x.near(p);
      case 24: return x.brief(p);
      case 25: return x.swap(p, q);
      case 26: return x.owed(p);
      case 27: return x.even();
      case 28: return x.wedding(p, q);
      case 29: return x.late(p, q);
      case 30: return x.fines(p, b);
      case 31: return x.move(p);
      case 32: return x.then(p);
      case 33: return x.together(p, b);
      case 34: return x.years();
      case 35: return x.keep(p);
      case 36: return x.again(p);
      default: return x.count(p);
    }
  }

  static final String[] NAMES = {"write", "wipe", "fault", "paper", "year", "whose", "words", "says", "nights", "night",
    "mend", "changes", "put", "at", "judge", "counts", "wish", "want", "unwant", "cost", "best", "bestAt", "take", "near",
    "brief", "swap", "owed", "even", "wedding", "late", "fines", "move", "then", "together", "years", "keep", "again", "count"};

  /** The greatest number that is as told for the first, second and third argument of each call. */
  static final int[][] MOST = {{8, 0, 0}, {}, {}, {}, {99, 0, 0}, {55, 0, 0}, {55, 0, 0}, {9, 55, 0}, {3, 0, 0}, {3, 30, 0},
    {}, {}, {55, 1, 0}, {55, 0, 0}, {}, {4, 0, 0}, {14, 9, 9}, {55, 1, 9}, {}, {}, {}, {55, 0, 0}, {}, {8, 0, 0},
    {56, 0, 0}, {55, 55, 0}, {55, 0, 0}, {}, {55, 1, 0}, {55, 99, 0}, {1, 0, 0}, {99, 0, 0}, {99, 0, 0}, {1, 0, 0}, {},
    {1, 0, 0}, {1, 0, 0}, {3, 0, 0}};

  static int argument(Random random, int which, int i) {
    if (random.nextInt(60) == 0) return new int[] {-1, Integer.MIN_VALUE, Integer.MAX_VALUE, 100, 57, 2, 10, 15}[random.nextInt(8)];
    int most = i < MOST[which].length ? MOST[which][i] : 0;
    if (random.nextInt(8) == 0) return most + random.nextInt(3) - 1;
    return random.nextInt(most + 2) - (random.nextInt(20) == 0 ? 1 : 0);
  }

  static String randomRule(Random random, int ranks) {
    int r = random.nextInt(ranks), h = random.nextInt(2), kind = random.nextInt(9);
    if (kind == 8) return "E" + r + h;
    if (kind < 4) {
      int n = 1 + random.nextInt(4);
      return "W" + r + random.nextInt(7) + n + random.nextInt(n) + h;
    }
    int a = random.nextInt(56), b = random.nextInt(56);
    String letter = kind < 5 ? "F" : kind < 7 ? "H" : "Y";
    return String.format("%s%d%02d%02d%d", letter, r, Math.min(a, b), Math.max(a, b), h);
  }

  static String randomText(Random random) {
    StringBuilder text = new StringBuilder();
    int rules = random.nextInt(4) == 0 ? 8 + random.nextInt(4) : random.nextInt(8), ranks = 1 + random.nextInt(10);
    for (int i = 0; i < rules; i++) {
      String rule = random.nextInt(12) == 0 ? "E" + random.nextInt(10) + random.nextInt(2) : randomRule(random, ranks);
      if (text.length() + rule.length() <= 64) text.append(rule);
    }
    if (text.length() > 0 && random.nextInt(4) == 0) {
      int place = random.nextInt(text.length());
      text.setCharAt(place, random.nextInt(3) == 0 ? (char) random.nextInt(256) : (char) ('0' + random.nextInt(10)));
    }
    if (random.nextInt(10) == 0) text.setLength(random.nextInt(text.length() + 1));
    return text.toString();
  }

  private static int wrong = 0;

  static void both(int run, int step, TwoHousesOneChild x, Model model, int which, int[] args, boolean b, long v) {
    int want = model.call(which, args[0], args[1], args[2], b, v);
    int got = call(x, which, args[0], args[1], args[2], b, v);
    if (got == want) return;
    wrong++;
    if (wrong < 20) System.out.println("run " + run + ", call " + step + ": " + NAMES[which] + "(" + args[0] + ", " + args[1]
        + ", " + args[2] + ", " + b + ", " + v + ") answered " + got + ", due is " + want + "; text " + model.text
        + "; paper " + model.now.paper);
  }

  static int writeText(int run, int step, TwoHousesOneChild x, Model model, Random random) {
    int calls = step;
    String text = randomText(random);
    both(run, calls++, x, model, 1, new int[3], false, 0);
    for (int from = 0; from < text.length(); ) {
      int n = Math.min(text.length() - from, 1 + random.nextInt(8));
      long v = random.nextLong();
      for (int i = 0; i < n; i++) v = v << 8 | text.charAt(from + i);
      both(run, calls++, x, model, 0, new int[] {n, 0, 0}, false, v);
      from += n;
    }
    both(run, calls++, x, model, 2, new int[3], false, 0);
    both(run, calls++, x, model, 3, new int[3], false, 0);
    return calls;
  }

  public static void main(String[] args) {
    learnAllRules();
    Random random = new Random(20261118);
    for (int run = 1; run <= 150 && wrong == 0; run++) {
      TwoHousesOneChild x = new TwoHousesOneChild();
      Model model = new Model();
      int step = writeText(run, 0, x, model, random);
      while (step < 480) {
        int which = random.nextInt(40);
        if (which == 38 && random.nextInt(4) == 0) {
          step = writeText(run, step, x, model, random);
        } else if (which == 39) {
          for (int i = 0; i < 10; i++) both(run, step++, x, model, 12, new int[] {random.nextInt(56), random.nextInt(2), 0}, false, 0);
        } else if ((which == 10 || which == 11) && random.nextInt(3) != 0) {
          continue;
        } else if (which != 38) {
          int[] three = {argument(random, which, 0), argument(random, which, 1), argument(random, which, 2)};
          both(run, step++, x, model, which, three, random.nextBoolean(), random.nextLong());
        }
      }
    }
    System.out.println(wrong == 0 ? "class and model answer alike" : wrong + " answers are not the model's");
    if (wrong != 0) System.exit(1);
  }
}
