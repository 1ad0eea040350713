/** A clock set by others; ../shared/DOC.md says what each method promises. */
public final class ClockDesk {
    public static final int NONE = -1;
    public static final long NO_OFFSET = -4611686018427387904L;

    private static final int SOURCES = 24;
    private static final long FARTHEST_OFFSET = 1L << 58;
    private static final long LATEST_TIME = 1L << 57;
    private static final long TIME_PER_STEP = 2000L;
    private static final long SETTLING_REACH = 1L << 40;

    private final long[] lows;
    private final long[] highs;
    /** The sources with an interval, as bits: a set of sources is an int throughout, so that no call makes an object. */
    private int held;

    private long ownTime;
    private long clockOffset;
    private long goal;

    public ClockDesk() {
        lows = new long[SOURCES];
        highs = new long[SOURCES];
        held = 0;
        ownTime = 0L;
        clockOffset = 0L;
        goal = 0L;
    }

    public boolean interval(int source, long low, long high) {
        if (!isSource(source) || low < -FARTHEST_OFFSET || low > high || high > FARTHEST_OFFSET) {
            return false;
        }
        hold(source, low, high);
        return true;
    }

    public long exchange(int source, long sent, long told, long came) {
        if (!isSource(source) || !isTime(sent) || !isTime(told) || !isTime(came) || sent > came) {
            return NO_OFFSET;
        }
        hold(source, told - came, told - sent);
        return told + half(came - sent) - came;
    }

    public boolean drop(int source) {
        if (!isIn(held, source)) {
            return false;
        }
        held = without(held, source);
        return true;
    }

    public int sources() {
        return Integer.bitCount(held);
    }

    public int covers(long point) {
        int count = 0;
        for (int source = 0; source < SOURCES; source++) {
            if (isCoveredBy(source, point)) {
                count++;
            }
        }
        return count;
    }

    public int greatest() {
        // Cover grows only where an interval begins, so the greatest number is met at one of the lows.
        int most = 0;
        for (int source = 0; source < SOURCES; source++) {
            if (isIn(held, source)) {
                most = Math.max(most, covers(lows[source]));
            }
        }
        return most;
    }

    public long region(int end) {
        if (held == 0 || !isZeroOrOne(end)) {
            return NO_OFFSET;
        }
        int most = greatest();
        long first = leastCoveredBy(most);
        return end == 0 ? first : endOfRow(first, most);
    }

    public long hull(int f, int end) {
        if (f < 0 || f >= sources() || !isZeroOrOne(end)) {
            return NO_OFFSET;
        }
        int enough = sources() - f;
        return end == 0 ? leastCoveredBy(enough) : greatestCoveredBy(enough);
    }

    public boolean chosen(int source) {
        return isIn(held, source) && lows[source] <= region(0) && region(1) <= highs[source];
    }

    public long mean(long limit, int part) {
        if (held == 0 || limit < 0L || !isZeroOrOne(part)) {
            return NO_OFFSET;
        }
        int near = nearTo(medianMiddle(), limit);
        return part == 0 ? meanMiddle(near) : Integer.bitCount(near);
    }

    public int survivors(int k) {
        return isCount(k) ? leftOf(k) : NONE;
    }

    public int rank(int source, int k) {
        if (!isCount(k)) {
            return NONE;
        }
        int left = leftOf(k);
        return isIn(left, source) ? place(source, left) : NONE;
    }

    public boolean tick(long now) {
        if (now < ownTime || now > LATEST_TIME) {
            return false;
        }
        long step = (now - ownTime) / TIME_PER_STEP;
        clockOffset += Math.max(-step, Math.min(step, goal - clockOffset));
        ownTime = now;
        return true;
    }

    public boolean steer() {
        if (2 * greatest() <= sources()) {
            return false;
        }
        goal = half(region(0) + region(1));
        return true;
    }

    public long read() {
        return ownTime + clockOffset;
    }

    public long offset(int what) {
        if (!isZeroOrOne(what)) {
            return NO_OFFSET;
        }
        return what == 0 ? clockOffset : goal;
    }

    public long settles() {
        long apart = Math.abs(goal - clockOffset);
        return apart > SETTLING_REACH ? NO_OFFSET : apart * TIME_PER_STEP;
    }

    private static boolean isSource(int source) {
        return source >= 0 && source < SOURCES;
    }

    private static boolean isTime(long time) {
        return time >= 0L && time <= LATEST_TIME;
    }

    private static boolean isCount(int k) {
        return k >= 1 && k <= SOURCES;
    }

    private static boolean isZeroOrOne(int choice) {
        return choice == 0 || choice == 1;
    }

    private static long half(long sum) {
        return Math.floorDiv(sum, 2L);
    }

    private static boolean isIn(int set, int source) {
        return isSource(source) && (set & (1 << source)) != 0;
    }

    private static int without(int set, int source) {
        return set & ~(1 << source);
    }

    private void hold(int source, long low, long high) {
        lows[source] = low;
        highs[source] = high;
        held |= 1 << source;
    }

    private boolean isCoveredBy(int source, long point) {
        return isIn(held, source) && lows[source] <= point && point <= highs[source];
    }

    /** The least point that at least so many cover is always a low, for there one more begins. */
    private long leastCoveredBy(int enough) {
        long least = NO_OFFSET;
        for (int source = 0; source < SOURCES; source++) {
            if (isIn(held, source) && covers(lows[source]) >= enough
                    && (least == NO_OFFSET || lows[source] < least)) {
                least = lows[source];
            }
        }
        return least;
    }

    /** The greatest such point is always a high; NO_OFFSET lies below every offset, so it needs no case of its own. */
    private long greatestCoveredBy(int enough) {
        long most = NO_OFFSET;
        for (int source = 0; source < SOURCES; source++) {
            if (isIn(held, source) && covers(highs[source]) >= enough) {
                most = Math.max(most, highs[source]);
            }
        }
        return most;
    }

    /**
     * The row may go on behind the end of an interval when another one begins at the very next point;
     * each step reaches another high, so there are fewer steps than sources.
     */
    private long endOfRow(long first, int most) {
        long end = firstHighFrom(first);
        for (int step = 0; step < SOURCES && covers(end + 1L) == most; step++) {
            end = firstHighFrom(end + 1L);
        }
        return end;
    }

    private long firstHighFrom(long point) {
        long first = FARTHEST_OFFSET;
        for (int source = 0; source < SOURCES; source++) {
            if (isCoveredBy(source, point)) {
                first = Math.min(first, highs[source]);
            }
        }
        return first;
    }

    private long middle(int source) {
        return half(lows[source] + highs[source]);
    }

    private long medianMiddle() {
        int wanted = (sources() - 1) / 2;
        for (int source = 0; source < SOURCES; source++) {
            if (isIn(held, source) && place(source, held) == wanted) {
                return middle(source);
            }
        }
        return NO_OFFSET;
    }

    /** How many of the set stand before the source, by middle and then by number. */
    private int place(int source, int set) {
        long own = middle(source);
        int before = 0;
        for (int other = 0; other < SOURCES; other++) {
            if (isIn(set, other) && (middle(other) < own || middle(other) == own && other < source)) {
                before++;
            }
        }
        return before;
    }

    private int nearTo(long point, long limit) {
        int near = held;
        for (int source = 0; source < SOURCES; source++) {
            if (isIn(held, source) && Math.abs(middle(source) - point) > limit) {
                near = without(near, source);
            }
        }
        return near;
    }

    /** The sum stays within a long: 24 middles of at most 2^58 are below 2^63. */
    private long meanMiddle(int set) {
        if (set == 0) {
            return NO_OFFSET;
        }
        long sum = 0L;
        for (int source = 0; source < SOURCES; source++) {
            if (isIn(set, source)) {
                sum += middle(source);
            }
        }
        return Math.floorDiv(sum, (long) Integer.bitCount(set));
    }

    private int leftOf(int k) {
        int left = held;
        for (int round = 0; round < SOURCES && Integer.bitCount(left) > k; round++) {
            left = without(left, farthest(left));
        }
        return left;
    }

    private int farthest(int set) {
        long mean = meanMiddle(set);
        long most = 0L;
        int found = 0;
        for (int source = 0; source < SOURCES; source++) {
            if (isIn(set, source) && Math.abs(middle(source) - mean) >= most) {
                most = Math.abs(middle(source) - mean);
                found = source;
            }
        }
        return found;
    }
}
