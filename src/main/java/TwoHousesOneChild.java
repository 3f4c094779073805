/**
 * Two houses, one child: a paper that says whose each night is, plans, wishes, swaps, lateness.
 * Words in capitals are the terms of the document. NIGHTS are held as bits of a long, so that
 * whole plans and papers are compared at once and no call has to make an object.
 */
public final class TwoHousesOneChild {
    public static final int UNKNOWN = -1, OUTSIDE = -2, STATE = -3, FULL = -4, NONE = -9;

    private static final int NIGHTS = 56;
    private static final int WEEKDAYS = 7;
    private static final int WEEKS = 8;
    private static final int HOUSES = 2;
    private static final int SLOTS = 2;
    private static final int MOST_BYTES = 64;
    private static final int MOST_RULES = 10;
    private static final int MOST_WANTS = 12;
    private static final int LONGEST_RUN = 14;
    private static final int MOST_WEIGHT = 9;
    private static final int LAST_YEAR = 99;
    private static final int MOST_MINUTES = 99;
    private static final int WEDDING_REACH = 14;
    private static final int NEAR_ENOUGH = 45;
    private static final int TIMES_TO_LOSE = 3;
    private static final long ALL = (1L << NIGHTS) - 1;
    /** NIGHT 0 of each WEEK: a pattern of one WEEK times this is that pattern in each WEEK. */
    private static final long WEEKLY = ALL / ((1L << WEEKDAYS) - 1);
    /** WEEKDAYS 6, 3, 2, 1 and 0. */
    private static final long SCHOOL = 0x4FL * WEEKLY;

    private final Text text = new Text();
    private final Standing now = new Standing();
    private final Standing slotZero = new Standing();
    private final Standing slotOne = new Standing();
    private final Wishes wishes = new Wishes();
    private final Planner planner = new Planner();
    private final Mending mending = new Mending();
    private final Reading reading = new Reading();
    private final Reading otherReading = new Reading();
    private int theYear = 1;

    public TwoHousesOneChild() {
    }

    // ---- the paper

    public int write(int n, long v) {
        if (n < 1 || n > 8) {
            return OUTSIDE;
        }
        return text.append(n, v) ? text.length : FULL;
    }

    public int wipe() {
        int was = text.length;
        text.length = 0;
        return was;
    }

    public int fault() {
        return text.firstFault();
    }

    public int paper() {
        if (text.firstFault() != NONE) {
            return STATE;
        }
        text.tellTo(now.paper);
        return now.paper.size;
    }

    public int year(int year) {
        if (year < 0 || year > LAST_YEAR) {
            return OUTSIDE;
        }
        int was = theYear;
        theYear = year;
        return was;
    }

    public int whose(int night) {
        return isNight(night) ? readPaper().whoseIs(night) : UNKNOWN;
    }

    public int words(int night) {
        return isNight(night) ? now.paper.foremost(night) : UNKNOWN;
    }

    public int says(int rule, int night) {
        if (rule < 0 || rule >= now.paper.size || !isNight(night)) {
            return UNKNOWN;
        }
        return now.paper.tells(rule, night, theYear);
    }

    public int nights(int what) {
        if (what < 0 || what > 3) {
            return OUTSIDE;
        }
        return Long.bitCount(readPaper().nightsThatAre(what));
    }

    public int night(int what, int i) {
        if (what < 0 || what > 3) {
            return OUTSIDE;
        }
        return Nights.pick(readPaper().nightsThatAre(what), i);
    }

    public int mend() {
        mending.find(now.paper, theYear, readPaper(), otherReading);
        return mending.rules;
    }

    public int changes() {
        mending.find(now.paper, theYear, readPaper(), otherReading);
        return mending.changed;
    }

    // ---- plans, wishes

    public int put(int night, int house) {
        if (!isNight(night) || !isHouse(house)) {
            return UNKNOWN;
        }
        int was = Nights.houseAt(now.plan, night);
        now.place(night, house);
        return was;
    }

    public int at(int night) {
        return isNight(night) ? Nights.houseAt(now.plan, night) : UNKNOWN;
    }

    public int judge() {
        return Nights.pick(notAsDecided(), 0);
    }

    public int counts(int what) {
        switch (what) {
            case 0:
                return Long.bitCount(Nights.atHouse(now.plan, 0));
            case 1:
                return Long.bitCount(Nights.atHouse(now.plan, 1));
            case 2:
                return Long.bitCount(Nights.handings(now.plan));
            case 3:
                return Nights.longestRow(Nights.atHouse(now.plan, 0));
            case 4:
                return Nights.longestRow(Nights.atHouse(now.plan, 1));
            default:
                return OUTSIDE;
        }
    }

    public int wish(int m, int a, int j) {
        if (m < 1 || m > LONGEST_RUN || a < 0 || a > 9 || j < 0 || j > 9) {
            return OUTSIDE;
        }
        int were = 1000 * wishes.longest + 10 * wishes.perLong + wishes.perHanding;
        wishes.longest = m;
        wishes.perLong = a;
        wishes.perHanding = j;
        return were;
    }

    public int want(int night, int house, int weight) {
        if (!isNight(night) || !isHouse(house)) {
            return UNKNOWN;
        }
        if (weight < 1 || weight > MOST_WEIGHT) {
            return OUTSIDE;
        }
        if (wishes.wants >= MOST_WANTS) {
            return FULL;
        }
        return wishes.addWant(night, house, weight);
    }

    public int unwant() {
        int were = wishes.wants;
        wishes.dropWants();
        return were;
    }

    public int cost() {
        return wishes.costOf(now.plan);
    }

    public int best() {
        findBest();
        return planner.leastCost;
    }

    public int bestAt(int night) {
        if (!isNight(night)) {
            return UNKNOWN;
        }
        findBest();
        return Nights.houseAt(planner.bestPlan, night);
    }

    public int take() {
        findBest();
        int otherwise = Long.bitCount(now.plan ^ planner.bestPlan);
        now.plan = planner.bestPlan;
        return otherwise;
    }

    // ---- near, swaps, late

    public int near(int n) {
        return n < 1 || n > WEEKS ? OUTSIDE : offWeeks(n);
    }

    public int brief(int x) {
        if (x < 0 || x > NIGHTS) {
            return OUTSIDE;
        }
        int weeks = 1;
        while (weeks < WEEKS && offWeeks(weeks) > x) {
            weeks++;
        }
        return weeks;
    }

    public int swap(int night, int other) {
        if (!isNight(night) || !isNight(other)) {
            return UNKNOWN;
        }
        if (Nights.houseAt(now.plan, night) == Nights.houseAt(now.plan, other)) {
            return STATE;
        }
        int was = wishes.costOf(now.plan);
        now.plan = Nights.turned(now.plan, night, other);
        return wishes.costOf(now.plan) - was + 1000;
    }

    public int owed(int night) {
        return isNight(night) ? owedAmong(Nights.upTo(night)) + 100 : UNKNOWN;
    }

    public int even() {
        int from = NONE;
        for (int night = NIGHTS - 1; night >= 0; night--) {
            if (owedAmong(Nights.upTo(night)) != 0) {
                return from;
            }
            from = night;
        }
        return from;
    }

    public int wedding(int night, int house) {
        if (!isNight(night) || !isHouse(house)) {
            return UNKNOWN;
        }
        if (Nights.houseAt(now.plan, night) == house) {
            return NONE;
        }
        return cheapestReturn(night, house);
    }

    public int late(int night, int minutes) {
        if (!isNight(night)) {
            return UNKNOWN;
        }
        if (minutes < 1 || minutes > MOST_MINUTES) {
            return OUTSIDE;
        }
        if (!Nights.holds(Nights.handings(now.plan), night)) {
            return STATE;
        }
        int house = Nights.houseAt(now.plan, night);
        int times = now.fine(house, (minutes + 9) / 10);
        return times % TIMES_TO_LOSE == 0 ? loseNext(house, night) : NONE;
    }

    public int fines(int house, boolean times) {
        if (!isHouse(house)) {
            return UNKNOWN;
        }
        return times ? now.timesLate[house] : now.paid[house];
    }

    // ---- a move, brothers, years

    public int move(int minutes) {
        if (minutes < 0 || minutes > MOST_MINUTES) {
            return OUTSIDE;
        }
        return Long.bitCount(readPaper().one & barredFromOne(minutes));
    }

    public int then(int minutes) {
        if (minutes < 0 || minutes > MOST_MINUTES) {
            return OUTSIDE;
        }
        long barred = barredFromOne(minutes);
        Reading decided = readPaper();
        planner.find(wishes, decided.zero | barred, decided.one & ~barred);
        return planner.leastCost;
    }

    public int together(int slot, boolean most) {
        if (!isSlot(slot)) {
            return UNKNOWN;
        }
        Standing kept = slotOf(slot);
        if (!kept.isKept) {
            return STATE;
        }
        Reading own = readPaper();
        kept.paper.readTo(otherReading, theYear, 0);
        Reading brothers = otherReading;
        if (most) {
            return NIGHTS - Long.bitCount(own.zero & brothers.one | own.one & brothers.zero);
        }
        return Long.bitCount(own.zero & brothers.zero | own.one & brothers.one);
    }

    public int years() {
        return zeroMoreThanOne(1) + zeroMoreThanOne(2) + 200;
    }

    // ---- slots

    public int keep(int slot) {
        if (!isSlot(slot)) {
            return UNKNOWN;
        }
        Standing kept = slotOf(slot);
        kept.copyOf(now);
        kept.isKept = true;
        return kept.paper.size;
    }

    public int again(int slot) {
        if (!isSlot(slot)) {
            return UNKNOWN;
        }
        Standing kept = slotOf(slot);
        if (!kept.isKept) {
            return STATE;
        }
        now.copyOf(kept);
        return now.paper.size;
    }

    public int count(int what) {
        switch (what) {
            case 0:
                return text.length;
            case 1:
                return now.paper.size;
            case 2:
                return wishes.wants;
            case 3:
                return Long.bitCount(notAsDecided());
            default:
                return OUTSIDE;
        }
    }

    // ---- what several calls need

    private static boolean isNight(int night) {
        return night >= 0 && night < NIGHTS;
    }

    private static boolean isHouse(int house) {
        return house >= 0 && house < HOUSES;
    }

    private static boolean isSlot(int slot) {
        return slot >= 0 && slot < SLOTS;
    }

    private Standing slotOf(int slot) {
        return slot == 0 ? slotZero : slotOne;
    }

    private Reading readPaper() {
        now.paper.readTo(reading, theYear, 0);
        return reading;
    }

    private long notAsDecided() {
        Reading decided = readPaper();
        return decided.zero & now.plan | decided.one & ~now.plan;
    }

    private void findBest() {
        Reading decided = readPaper();
        planner.find(wishes, decided.zero, decided.one);
    }

    /** How many NIGHTS of the PLAN are off the nearest one that is the same each so many WEEKS. */
    private int offWeeks(int weeks) {
        int step = Math.max(weeks, 1) * WEEKDAYS;
        int off = 0;
        for (int first = 0; first < step && first < NIGHTS; first++) {
            int zeros = 0;
            int ones = 0;
            for (int night = first; night < NIGHTS; night += step) {
                if (Nights.houseAt(now.plan, night) == 0) {
                    zeros++;
                } else {
                    ones++;
                }
            }
            off += Math.min(zeros, ones);
        }
        return off;
    }

    private int owedAmong(long among) {
        Reading decided = readPaper();
        int givenByOne = Long.bitCount(decided.one & ~now.plan & among);
        int givenByZero = Long.bitCount(decided.zero & now.plan & among);
        return givenByOne - givenByZero;
    }

    /** The NIGHT that goes back for one that comes to a HOUSE; NONE, if none within reach is there. */
    private int cheapestReturn(int night, int house) {
        int from = Math.max(night - WEDDING_REACH, 0);
        int to = Math.min(night + WEDDING_REACH, NIGHTS - 1);
        int found = NONE;
        int least = 0;
        for (int other = from; other <= to; other++) {
            if (Nights.houseAt(now.plan, other) != house) {
                continue;
            }
            int cost = wishes.costOf(Nights.turned(now.plan, night, other));
            if (found == NONE || cost < least) {
                found = other;
                least = cost;
            }
        }
        return found;
    }

    private int loseNext(int house, int night) {
        Reading decided = readPaper();
        long behind = decided.nightsThatAre(house) & ~Nights.upTo(night);
        int lost = Nights.pick(behind, 0);
        if (lost != NONE) {
            now.place(lost, 1 - house);
        }
        return lost;
    }

    private static long barredFromOne(int minutes) {
        return minutes > NEAR_ENOUGH ? SCHOOL : 0;
    }

    private int zeroMoreThanOne(int year) {
        now.paper.readTo(otherReading, year, 0);
        return Long.bitCount(otherReading.zero) - Long.bitCount(otherReading.one);
    }

    /** Sets of NIGHTS, and PLANS: a PLAN is the set of its NIGHTS at HOUSE 1. */
    static final class Nights {
        static int houseAt(long plan, int night) {
            return (int) (plan >>> night & 1);
        }

        static boolean holds(long set, int night) {
            return (set >>> night & 1) != 0;
        }

        static long atHouse(long plan, int house) {
            return house == 0 ? ALL & ~plan : ALL & plan;
        }

        static long upTo(int night) {
            return (2L << night) - 1;
        }

        static long span(int from, int to) {
            return upTo(to) & ALL << from;
        }

        static long turned(long plan, int night, int other) {
            return plan ^ 1L << night ^ 1L << other;
        }

        static long handings(long plan) {
            return (plan ^ plan << 1) & ALL & ~1L;
        }

        /** The i-th of a set, counted from 0; NONE. */
        static int pick(long set, int i) {
            if (i < 0 || i >= Long.bitCount(set)) {
                return NONE;
            }
            long rest = set;
            for (int passed = 0; passed < i; passed++) {
                rest &= rest - 1;
            }
            return Long.bitCount((rest & -rest) - 1);
        }

        static int longestRow(long set) {
            long ends = set;
            int length = 0;
            while (length < NIGHTS && ends != 0) {
                length++;
                ends &= ends << 1;
            }
            return length;
        }

        /** NIGHTS whose RUN is more than so many: each of the last so many is no HANDING. */
        static long behindLongRuns(long plan, int longest) {
            long stays = ALL & ~1L & ~handings(plan);
            long behind = stays;
            for (int back = 1; back < longest; back++) {
                behind &= stays << back;
            }
            return behind;
        }
    }

    /** THE TEXT. */
    static final class Text {
        final byte[] signs = new byte[MOST_BYTES];
        int length;

        /** False, and nothing comes, if there is no room. */
        boolean append(int n, long v) {
            if (n < 0 || n > signs.length - length) {
                return false;
            }
            for (int left = n - 1; left >= 0; left--) {
                signs[length] = (byte) (v >> 8 * left);
                length++;
            }
            return true;
        }

        int signAt(int place) {
            return place >= 0 && place < length ? signs[place] : 0;
        }

        int figureAt(int place) {
            return signAt(place) - '0';
        }

        int firstFault() {
            int start = 0;
            for (int rules = 0; rules < MOST_RULES && start < length; rules++) {
                int size = sizeOfRule(start);
                if (size == 0) {
                    return start;
                }
                int end = start + size;
                for (int place = start + 1; place < end && place < length; place++) {
                    if (!fits(start, place)) {
                        return place;
                    }
                }
                if (end > length) {
                    return length;
                }
                start = end;
            }
            return start < length ? start : NONE;
        }

        /** 0: there is no such RULE. */
        int sizeOfRule(int start) {
            switch (signAt(start)) {
                case 'W':
                    return 6;
                case 'F':
                case 'H':
                case 'Y':
                    return 7;
                case 'E':
                    return 3;
                default:
                    return 0;
            }
        }

        /** Whether a RULE can go on so, if all ahead of that place in it is well. */
        boolean fits(int start, int place) {
            int figure = figureAt(place);
            int into = place - start;
            if (figure < 0 || figure > 9) {
                return false;
            }
            if (into == 1) {
                return true;
            }
            if (into == sizeOfRule(start) - 1) {
                return figure < HOUSES;
            }
            return signAt(start) == 'W' ? fitsWeekday(start, into, figure) : fitsSpan(start, into, figure);
        }

        boolean fitsWeekday(int start, int into, int figure) {
            switch (into) {
                case 2:
                    return figure < WEEKDAYS;
                case 3:
                    return figure >= 1 && figure <= 4;
                default:
                    return figure < figureAt(start + 3);
            }
        }

        boolean fitsSpan(int start, int into, int figure) {
            int fromTens = figureAt(start + 2);
            switch (into) {
                case 2:
                    return figure <= 5;
                case 3:
                    return fromTens * 10 + figure < NIGHTS;
                case 4:
                    return figure >= fromTens && figure <= 5;
                default:
                    int to = figureAt(start + 4) * 10 + figure;
                    return to >= nightAt(start + 2) && to < NIGHTS;
            }
        }

        int nightAt(int place) {
            return figureAt(place) * 10 + figureAt(place + 1);
        }

        /** The RULES of a TEXT without FAULT. */
        void tellTo(Paper paper) {
            paper.size = 0;
            int start = 0;
            for (int rules = 0; rules < MOST_RULES && start < length; rules++) {
                tellRule(paper, start);
                start += sizeOfRule(start);
            }
        }

        void tellRule(Paper paper, int start) {
            int letter = signAt(start);
            int rank = figureAt(start + 1);
            int house = figureAt(start + sizeOfRule(start) - 1);
            long told = ALL;
            if (letter == 'W') {
                told = inWeeks(figureAt(start + 2), figureAt(start + 3), figureAt(start + 4));
            } else if (letter != 'E') {
                told = Nights.span(nightAt(start + 2), nightAt(start + 4));
            }
            long forHouse = told;
            if (letter == 'H') {
                int from = nightAt(start + 2);
                forHouse = Nights.span(from, from + (nightAt(start + 4) - from) / 2);
            }
            paper.addRule(rank, told, house == 1 ? forHouse : told & ~forHouse, letter == 'Y');
        }

        static long inWeeks(int weekday, int by, int leaves) {
            long told = 0;
            for (int week = 0; week < WEEKS && by > 0; week++) {
                if (week % by == leaves) {
                    told |= 1L << week * WEEKDAYS + weekday;
                }
            }
            return told;
        }
    }

    /**
     * A PAPER: of each RULE its number, its RANK, the NIGHTS it tells of, and those of HOUSE 1 in an
     * odd YEAR. RULES stand in the order of their RANKS, so that one pass is enough to read the PAPER.
     */
    static final class Paper {
        int size;
        final int[] numbers = new int[MOST_RULES];
        final int[] ranks = new int[MOST_RULES];
        final long[] told = new long[MOST_RULES];
        final long[] ones = new long[MOST_RULES];
        final boolean[] turnsByYear = new boolean[MOST_RULES];

        void addRule(int rank, long nights, long nightsOfOne, boolean turns) {
            if (size < 0 || size >= MOST_RULES) {
                return;
            }
            int place = size;
            while (place > 0 && ranks[place - 1] > rank) {
                copyRule(this, place - 1, place);
                place--;
            }
            numbers[place] = size;
            ranks[place] = rank;
            told[place] = nights;
            ones[place] = nightsOfOne;
            turnsByYear[place] = turns;
            size++;
        }

        void copyOf(Paper other) {
            for (int place = 0; place < MOST_RULES; place++) {
                copyRule(other, place, place);
            }
            size = other.size;
        }

        void copyRule(Paper other, int from, int to) {
            if (from < 0 || from >= MOST_RULES || to < 0 || to >= MOST_RULES) {
                return;
            }
            numbers[to] = other.numbers[from];
            ranks[to] = other.ranks[from];
            told[to] = other.told[from];
            ones[to] = other.ones[from];
            turnsByYear[to] = other.turnsByYear[from];
        }

        long nightsOfOne(int place, int year) {
            if (place < 0 || place >= MOST_RULES) {
                return 0;
            }
            boolean turned = turnsByYear[place] && (year & 1) == 0;
            return turned ? told[place] & ~ones[place] : ones[place];
        }

        int tells(int rule, int night, int year) {
            for (int place = 0; place < size && place < MOST_RULES; place++) {
                if (numbers[place] == rule && Nights.holds(told[place], night)) {
                    return Nights.houseAt(nightsOfOne(place, year), night);
                }
            }
            return NONE;
        }

        /** RULES of the least RANK that tell of a NIGHT, as bits. */
        int foremost(int night) {
            int bits = 0;
            int least = NONE;
            for (int place = 0; place < size && place < MOST_RULES; place++) {
                if (!Nights.holds(told[place], night)) {
                    continue;
                }
                if (least == NONE) {
                    least = ranks[place];
                }
                if (ranks[place] == least) {
                    bits |= 1 << numbers[place];
                }
            }
            return bits;
        }

        /** WHOSE each NIGHT is in a YEAR, some RULES (as bits) left out. */
        void readTo(Reading reading, int year, int without) {
            reading.clear();
            long zero = 0;
            long one = 0;
            int rank = NONE;
            for (int place = 0; place < size && place < MOST_RULES; place++) {
                if ((without >> numbers[place] & 1) != 0) {
                    continue;
                }
                if (ranks[place] != rank) {
                    reading.settle(zero, one);
                    zero = 0;
                    one = 0;
                    rank = ranks[place];
                }
                long ofOne = nightsOfOne(place, year);
                one |= ofOne;
                zero |= told[place] & ~ofOne;
            }
            reading.settle(zero, one);
        }
    }

    /** WHOSE each NIGHT is: the NIGHTS of HOUSE 0, of HOUSE 1, and those that FIGHT; the rest is OPEN. */
    static final class Reading {
        long zero;
        long one;
        long fights;

        void clear() {
            zero = 0;
            one = 0;
            fights = 0;
        }

        /** What RULES of one RANK tell, where none of a lesser RANK did. */
        void settle(long toldZero, long toldOne) {
            long free = nightsThatAre(2);
            fights |= toldZero & toldOne & free;
            zero |= toldZero & ~toldOne & free;
            one |= toldOne & ~toldZero & free;
        }

        long nightsThatAre(int what) {
            switch (what) {
                case 0:
                    return zero;
                case 1:
                    return one;
                case 2:
                    return ALL & ~(zero | one | fights);
                default:
                    return fights;
            }
        }

        int whoseIs(int night) {
            int what = 0;
            while (what < 3 && !Nights.holds(nightsThatAre(what), night)) {
                what++;
            }
            return what;
        }

        /** NIGHTS that are told otherwise than by another, but for those that FIGHT here. */
        long toldOtherwise(Reading other) {
            return (zero ^ other.zero | one ^ other.one) & ~fights;
        }
    }

    /** TO MEND. */
    static final class Mending {
        int rules;
        int changed;

        /** Goes up through the sets of RULES: of like ones the least as bits is met first. */
        void find(Paper paper, int year, Reading now, Reading scratch) {
            int fewest = MOST_RULES + 1;
            rules = 0;
            changed = 0;
            for (int bits = 0; bits < 1 << paper.size; bits++) {
                int many = Integer.bitCount(bits);
                if (many > fewest) {
                    continue;
                }
                paper.readTo(scratch, year, bits);
                if (scratch.fights != 0) {
                    continue;
                }
                int otherwise = Long.bitCount(now.toldOtherwise(scratch));
                if (many < fewest || otherwise < changed) {
                    fewest = many;
                    rules = bits;
                    changed = otherwise;
                }
            }
        }
    }

    /** WISHES, with the WANTS summed up by what each NIGHT costs at each HOUSE. */
    static final class Wishes {
        int longest = 5;
        int perLong = 1;
        int perHanding = 1;
        int wants;
        final int[] against = new int[HOUSES * NIGHTS];

        int addWant(int night, int house, int weight) {
            int place = (1 - house) * NIGHTS + night;
            if (place >= 0 && place < against.length) {
                against[place] += weight;
            }
            int number = wants;
            wants++;
            return number;
        }

        void dropWants() {
            wants = 0;
            for (int place = 0; place < against.length; place++) {
                against[place] = 0;
            }
        }

        /** Weights of WANTS that are not so, if a NIGHT is at a HOUSE. */
        int priceOf(int night, int house) {
            int place = house * NIGHTS + night;
            return place >= 0 && place < against.length ? against[place] : 0;
        }

        int costOf(long plan) {
            int cost = perHanding * Long.bitCount(Nights.handings(plan))
                    + perLong * Long.bitCount(Nights.behindLongRuns(plan, longest));
            if (wants == 0) {
                return cost;
            }
            for (int night = 0; night < NIGHTS; night++) {
                cost += priceOf(night, Nights.houseAt(plan, night));
            }
            return cost;
        }
    }

    /**
     * THE BEST, found from the last NIGHT to the first: for a NIGHT at a HOUSE with a RUN it holds
     * the least that the NIGHTS behind it cost, and the first PLAN of them that costs so much.
     * RUNS beyond the longest that is wished cost alike, so they are held as that one.
     */
    static final class Planner {
        /** Far above any COST, and far below what an int holds. */
        private static final int BARRED = 1000000;
        private static final int ROW = LONGEST_RUN + 1;

        final int[] costBehind = new int[HOUSES * ROW];
        final long[] planBehind = new long[HOUSES * ROW];
        int leastCost;
        long bestPlan;

        /** NIGHTS that must be at HOUSE 0, and at HOUSE 1, have none in common. */
        void find(Wishes wishes, long mustZero, long mustOne) {
            for (int place = 0; place < costBehind.length; place++) {
                costBehind[place] = 0;
                planBehind[place] = 0;
            }
            for (int night = NIGHTS - 1; night > 0; night--) {
                int zero = priceWithin(wishes, night, 0, mustOne);
                int one = priceWithin(wishes, night, 1, mustZero);
                stepAhead(wishes, night, zero, one);
            }
            int zero = priceWithin(wishes, 0, 0, mustOne) + costBehind[placeOf(0, 1)];
            int one = priceWithin(wishes, 0, 1, mustZero) + costBehind[placeOf(1, 1)];
            leastCost = Math.min(zero, one);
            bestPlan = zero <= one ? planBehind[placeOf(0, 1)] : planBehind[placeOf(1, 1)] | 1;
        }

        static int placeOf(int house, int run) {
            return house * ROW + run;
        }

        static int priceWithin(Wishes wishes, int night, int house, long barred) {
            return Nights.holds(barred, night) ? BARRED : wishes.priceOf(night, house);
        }

        /** From what is held of a NIGHT to what is to be held of the one ahead of it. */
        void stepAhead(Wishes wishes, int night, int priceZero, int priceOne) {
            int newZero = priceZero + costBehind[placeOf(0, 1)];
            int newOne = priceOne + costBehind[placeOf(1, 1)];
            long planZero = planBehind[placeOf(0, 1)];
            long planOne = planBehind[placeOf(1, 1)] | 1L << night;
            int longest = Math.max(1, Math.min(wishes.longest, LONGEST_RUN));
            // a RUN needs what is held of the one longer by 1, which is not yet written over
            for (int run = 1; run <= longest; run++) {
                int next = Math.min(run + 1, longest);
                int more = run == longest ? wishes.perLong : 0;
                int zero = placeOf(0, run);
                int one = placeOf(1, run);
                int stayZero = priceZero + more + costBehind[placeOf(0, next)];
                int stayOne = priceOne + more + costBehind[placeOf(1, next)];
                long stayPlanOne = planBehind[placeOf(1, next)] | 1L << night;
                boolean stays = stayZero <= newOne + wishes.perHanding;
                costBehind[zero] = stays ? stayZero : newOne + wishes.perHanding;
                planBehind[zero] = stays ? planBehind[placeOf(0, next)] : planOne;
                boolean turns = newZero + wishes.perHanding <= stayOne;
                costBehind[one] = turns ? newZero + wishes.perHanding : stayOne;
                planBehind[one] = turns ? planZero : stayPlanOne;
            }
        }
    }

    /** What a SLOT keeps, and what stands now: THE PAPER, the PLAN, how often LATE, FINES. */
    static final class Standing {
        final Paper paper = new Paper();
        long plan;
        final int[] timesLate = new int[HOUSES];
        final int[] paid = new int[HOUSES];
        boolean isKept;

        void place(int night, int house) {
            long bit = 1L << night;
            plan = house == 0 ? plan & ~bit : plan | bit;
        }

        /** How often the HOUSE was LATE by now. */
        int fine(int house, int amount) {
            if (house < 0 || house >= HOUSES) {
                return 0;
            }
            timesLate[house]++;
            paid[house] += amount;
            return timesLate[house];
        }

        void copyOf(Standing other) {
            paper.copyOf(other.paper);
            plan = other.plan;
            for (int house = 0; house < HOUSES; house++) {
                timesLate[house] = other.timesLate[house];
                paid[house] = other.paid[house];
            }
        }
    }
}
