/**
 * When heating must start: rooms that warm and cool minute by minute in whole numbers, the latest
 * start with which each is warm in time, a machine shared by ranks, what days teach, and the
 * cheapest quarters to heat in.
 */
public final class StartTimes {
    /** There is none. */
    public static final int NONE = -1;

    private static final int MINUTES = 1440;
    private static final int MINUTES_OF_AN_HOUR = 60;
    private static final int HOURS = 24;
    private static final int MOST_ZONES = 6;
    private static final int MOST_HOLDS = 1000;
    private static final int MOST_LEADS = 1000;
    private static final int MOST_WARMTH = 10000;
    private static final int MOST_POWER = 100000;
    private static final int MOST_RANK = 9;
    private static final int MOST_OUTSIDE_ROWS = 24;
    private static final int MOST_OF_THE_MACHINE = 1000000;
    private static final int MOST_FADE_BELOW = 100;
    private static final int MOST_PRICE = 1000;
    private static final int MOST_QUARTERS = 10;
    private static final int MOST_QUARTER_MINUTES = 30;
    private static final int MOST_SETS = 1 << MOST_QUARTERS;

    /** The first step of the search for a start: its halves down to 1 add up to more than a day. */
    private static final int WIDEST_STEP = 1024;

    private static final int WARMTH = 0;
    private static final int POWER = 1;
    private static final int RANK = 2;

    private final Zone[] zones = new Zone[MOST_ZONES];
    private int zoneCount = 0;

    /** The outside's warmth in each minute. */
    private final int[] outsideWarmths = new int[MINUTES];
    private int outsideRows = 0;
    private int lastOutsideMinute = NONE;

    private int machinePower = 100000;

    /** What all zones get in each minute by the plan. */
    private final int[] given = new int[MINUTES];
    /** Whether the plan kept in the zones and in given is still that of what has been told. */
    private boolean planned = false;

    private int fadeAbove = 1;
    private int fadeBelow = 2;

    private final int[] prices = new int[HOURS];

    /** By set of quarters: the warmth that it leads to, and what it costs. Used anew by each call. */
    private final int[] setWarmths = new int[MOST_SETS];
    private final long[] setCosts = new long[MOST_SETS];

    public StartTimes() {
    }

    public int zone(int holds, int leads) throws IllegalArgumentException, IllegalStateException {
        checkBounds(holds, 1, MOST_HOLDS);
        checkBounds(leads, 1, MOST_LEADS);
        if (zoneCount >= MOST_ZONES) {
            throw new IllegalStateException("there are 6 zones");
        }
        int number = zoneCount;
        zones[number] = new Zone(holds, leads);
        zoneCount++;
        planned = false;
        return number;
    }

    public int set(int zone, int what, int v) throws IllegalArgumentException {
        Zone z = knownZone(zone);
        checkBounds(what, WARMTH, RANK);
        int was;
        if (what == WARMTH) {
            checkBounds(v, -MOST_WARMTH, MOST_WARMTH);
            was = z.firstWarmth;
            z.firstWarmth = v;
        } else if (what == POWER) {
            checkBounds(v, 0, MOST_POWER);
            was = z.power;
            z.power = v;
        } else {
            checkBounds(v, 0, MOST_RANK);
            was = z.rank;
            z.rank = v;
        }
        planned = false;
        return was;
    }

    public void want(int zone, int minute, int warmth) throws IllegalArgumentException {
        Zone z = knownZone(zone);
        checkBounds(minute, NONE, MINUTES - 1);
        checkBounds(warmth, -MOST_WARMTH, MOST_WARMTH);
        z.wantedMinute = minute;
        z.wantedWarmth = warmth;
        planned = false;
    }

    public int outside(int minute, int warmth) throws IllegalArgumentException, IllegalStateException {
        checkBounds(minute, 0, MINUTES - 1);
        checkBounds(warmth, -MOST_WARMTH, MOST_WARMTH);
        if (outsideRows >= MOST_OUTSIDE_ROWS) {
            throw new IllegalStateException("there are 24 rows");
        }
        if (minute <= lastOutsideMinute) {
            throw new IllegalStateException("a row is at that minute or behind it");
        }
        for (int i = minute; i < MINUTES; i++) {
            outsideWarmths[i] = warmth;
        }
        lastOutsideMinute = minute;
        outsideRows++;
        planned = false;
        return outsideRows;
    }

    public int machine(int power) throws IllegalArgumentException {
        checkBounds(power, 0, MOST_OF_THE_MACHINE);
        int was = machinePower;
        machinePower = power;
        planned = false;
        return was;
    }

    // ---- the plan

    public int start(int zone) throws IllegalArgumentException {
        return plannedZone(zone).start;
    }

    public boolean late(int zone) throws IllegalArgumentException {
        Zone z = plannedZone(zone);
        return z.wantsWarmth() && z.warmths[z.wantedMinute] < z.wantedWarmth;
    }

    public int at(int zone, int minute) throws IllegalArgumentException {
        checkBounds(minute, 0, MINUTES);
        return plannedZone(zone).warmths[minute];
    }

    public int used(int minute) throws IllegalArgumentException {
        checkBounds(minute, 0, MINUTES - 1);
        makePlan();
        return given[minute];
    }

    public int cold(int zone) throws IllegalArgumentException {
        Zone z = plannedZone(zone);
        if (!z.wantsWarmth()) {
            return 0;
        }
        int minutes = 0;
        for (int i = z.wantedMinute; i < MINUTES; i++) {
            if (z.warmths[i] < z.wantedWarmth) {
                minutes++;
            }
        }
        return minutes;
    }

    // ---- what days teach

    public void fade(int above, int below) throws IllegalArgumentException {
        checkBounds(below, 1, MOST_FADE_BELOW);
        checkBounds(above, 0, below);
        fadeAbove = above;
        fadeBelow = below;
    }

    public void day(int zone, int minutes) throws IllegalArgumentException {
        Zone z = knownZone(zone);
        checkBounds(minutes, -MINUTES, MINUTES);
        z.lesson.learn(minutes, fadeAbove, fadeBelow);
    }

    public long lesson(int zone, int part) throws IllegalArgumentException {
        Zone z = knownZone(zone);
        checkBounds(part, 0, 1);
        return part == 0 ? z.lesson.above : z.lesson.below;
    }

    public int taught(int zone) throws IllegalArgumentException {
        Zone z = plannedZone(zone);
        if (!z.wantsWarmth()) {
            return NONE;
        }
        int minute = z.start - z.lesson.wholeMinutes();
        return Math.max(0, Math.min(minute, MINUTES - 1));
    }

    // ---- prices

    public int price(int hour, int p) throws IllegalArgumentException {
        checkBounds(hour, 0, HOURS - 1);
        checkBounds(p, 0, MOST_PRICE);
        int was = prices[hour];
        prices[hour] = p;
        return was;
    }

    public int cheapest(int zone, int n, int m) throws IllegalArgumentException, IllegalStateException {
        Zone z = knownZone(zone);
        checkQuarters(n, m);
        checkWants(z);
        weighSets(z, n, m);
        int best = NONE;
        for (int set = 0; set < 1 << n; set++) {
            boolean does = setWarmths[set] >= z.wantedWarmth;
            if (does && (best == NONE || setCosts[set] < setCosts[best])) {
                best = set;
            }
        }
        return best;
    }

    public long costs(int zone, int n, int m, int set) throws IllegalArgumentException, IllegalStateException {
        Zone z = knownZone(zone);
        checkQuarters(n, m);
        checkBounds(set, 0, (1 << n) - 1);
        checkWants(z);
        int warmth = warmthThrough(z, z.firstWarmth, 0, quarterBegin(z, n, m), 0);
        long cost = 0;
        for (int k = 0; k < n; k++) {
            int from = quarterBegin(z, n - k, m);
            int to = quarterBegin(z, n - k - 1, m);
            boolean heats = (set >> k & 1) == 1;
            warmth = warmthThrough(z, warmth, from, to, heats ? z.power : 0);
            cost += heats ? costOfMinutes(z, from, to) : 0;
        }
        return warmth >= z.wantedWarmth ? cost : NONE;
    }

    // ---- what is tested before a call changes or answers anything

    private static void checkBounds(int v, int least, int most) {
        if (v < least || v > most) {
            throw new IllegalArgumentException("a number is out of its bounds");
        }
    }

    private static void checkQuarters(int n, int m) {
        checkBounds(n, 1, MOST_QUARTERS);
        checkBounds(m, 1, MOST_QUARTER_MINUTES);
    }

    private static void checkWants(Zone z) {
        if (!z.wantsWarmth()) {
            throw new IllegalStateException("the zone wants nothing");
        }
    }

    private Zone knownZone(int zone) {
        if (zone < 0 || zone >= zoneCount) {
            throw new IllegalArgumentException("there is no such zone");
        }
        return zones[zone];
    }

    private Zone plannedZone(int zone) {
        Zone z = knownZone(zone);
        makePlan();
        return z;
    }

    // ---- how a zone warms and cools

    private int warmthAfter(Zone z, int warmth, int minute, int heat) {
        return warmth + (outsideWarmths[minute] - warmth) / z.leads + heat / z.holds;
    }

    private int warmthThrough(Zone z, int warmth, int from, int to, int heat) {
        int now = warmth;
        for (int i = from; i < to; i++) {
            now = warmthAfter(z, now, i, heat);
        }
        return now;
    }

    // ---- how the plan is made

    private void makePlan() {
        if (planned) {
            return;
        }
        for (int i = 0; i < MINUTES; i++) {
            given[i] = 0;
        }
        for (int rank = 0; rank <= MOST_RANK; rank++) {
            for (int i = 0; i < zoneCount; i++) {
                if (zones[i].rank == rank) {
                    planZone(zones[i]);
                }
            }
        }
        planned = true;
    }

    private void planZone(Zone z) {
        z.warmths[0] = z.firstWarmth;
        leaveUnheated(z, 0);
        z.start = NONE;
        if (z.wantsWarmth()) {
            z.start = latestStart(z);
            heatFromStart(z);
            leaveUnheated(z, z.wantedMinute);
        }
    }

    private void leaveUnheated(Zone z, int from) {
        for (int i = from; i < MINUTES; i++) {
            z.warmths[i + 1] = warmthAfter(z, z.warmths[i], i, 0);
        }
    }

    /**
     * The latest start that does, 0 if none does. Halving steps find it, because a zone that is
     * warmer in a minute is never less warm in the next one, so that an earlier start never
     * leaves it less warm: all starts up to the latest that does do too.
     */
    private int latestStart(Zone z) {
        int start = 0;
        for (int step = WIDEST_STEP; step > 0; step /= 2) {
            int later = start + step;
            if (later <= z.wantedMinute && warmthIfStarted(z, later) >= z.wantedWarmth) {
                start = later;
            }
        }
        return start;
    }

    /** The warmth at the wanted minute; until it starts, the zone is as warm as left unheated. */
    private int warmthIfStarted(Zone z, int start) {
        int warmth = z.warmths[start];
        for (int i = start; i < z.wantedMinute; i++) {
            warmth = warmthAfter(z, warmth, i, shareOf(z, i));
        }
        return warmth;
    }

    private void heatFromStart(Zone z) {
        for (int i = z.start; i < z.wantedMinute; i++) {
            int share = shareOf(z, i);
            z.warmths[i + 1] = warmthAfter(z, z.warmths[i], i, share);
            given[i] += share;
        }
    }

    private int shareOf(Zone z, int minute) {
        int left = machinePower - given[minute];
        return z.power < left ? z.power : left;
    }

    // ---- how quarters are weighed

    /** Where the last so many quarters before the wanted minute begin, no minute being before 0. */
    private static int quarterBegin(Zone z, int lastQuarters, int m) {
        return Math.max(0, z.wantedMinute - lastQuarters * m);
    }

    private long costOfMinutes(Zone z, int from, int to) {
        long cost = 0;
        for (int i = from; i < to; i++) {
            cost += (long) z.power * prices[i / MINUTES_OF_AN_HOUR];
        }
        return cost;
    }

    /** Goes quarter by quarter, so that sets that are alike up to a quarter are reckoned once. */
    private void weighSets(Zone z, int n, int m) {
        setWarmths[0] = warmthThrough(z, z.firstWarmth, 0, quarterBegin(z, n, m), 0);
        setCosts[0] = 0;
        for (int k = 0; k < n; k++) {
            int from = quarterBegin(z, n - k, m);
            int to = quarterBegin(z, n - k - 1, m);
            long cost = costOfMinutes(z, from, to);
            int bit = 1 << k;
            for (int set = 0; set < bit; set++) {
                int warmth = setWarmths[set];
                setWarmths[set + bit] = warmthThrough(z, warmth, from, to, z.power);
                setCosts[set + bit] = setCosts[set] + cost;
                setWarmths[set] = warmthThrough(z, warmth, from, to, 0);
            }
        }
    }

    /** What has been told of a zone, and its part of the plan. */
    private static final class Zone {
        private final int holds;
        private final int leads;
        private int firstWarmth = 0;
        private int power = 1000;
        private int rank = 0;
        private int wantedMinute = NONE;
        private int wantedWarmth = 0;
        private final Lesson lesson = new Lesson();
        private int start = NONE;
        /** The warmth at the beginning of each minute, and at the day's end. */
        private final int[] warmths = new int[MINUTES + 1];

        private Zone(int holds, int leads) {
            this.holds = holds;
            this.leads = leads;
        }

        private boolean wantsWarmth() {
            return wantedMinute != NONE;
        }
    }

    /** A fraction in lowest terms, its below 1 to 10^9, of 1440 minutes at most either way. */
    private static final class Lesson {
        private static final long MOST_BELOW = 1000000000L;
        private static final long MILLION = 1000000L;
        /** More than the remainders that any two longs have. */
        private static final int MOST_REMAINDERS = 100;

        private long above = 0;
        private long below = 1;

        /** The products stay under 10^15: above is 1440 * 10^9 at most, a fade's parts are 100. */
        private void learn(int minutes, int fadeAbove, int fadeBelow) {
            long old = above * (fadeBelow - fadeAbove);
            long taught = minutes * below * fadeAbove;
            keepInLowestTerms(old + taught, below * fadeBelow);
            if (below > MOST_BELOW) {
                keepInLowestTerms(millionths(), MILLION);
            }
        }

        /** The whole part goes apart, because all of above times a million would not fit. */
        private long millionths() {
            return above / below * MILLION + above % below * MILLION / below;
        }

        private void keepInLowestTerms(long newAbove, long newBelow) {
            long divisor = commonDivisor(Math.abs(newAbove), newBelow);
            above = newAbove / divisor;
            below = newBelow / divisor;
        }

        private static long commonDivisor(long a, long b) {
            long divisor = b;
            long rest = a;
            for (int i = 0; i < MOST_REMAINDERS && rest != 0; i++) {
                long next = divisor % rest;
                divisor = rest;
                rest = next;
            }
            return divisor;
        }

        private int wholeMinutes() {
            return (int) (above / below);
        }
    }
}
