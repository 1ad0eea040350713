/** Desks, limits and wrong arguments that several tests use. */
final class Desks {
    static final long FAR = 1L << 58;
    static final long LATEST = 1L << 57;
    static final long REACH = 1L << 40;
    static final long NO = ClockDesk.NO_OFFSET;
    static final int NONE = ClockDesk.NONE;

    /** 32 to 55, -32 to -9 and the least int are a source's number again once a shift has wrapped them round. */
    static final int[] NO_SOURCES = {-1, 24, 25, 31, 32, 55, 64, -9, -32, Integer.MIN_VALUE, Integer.MAX_VALUE};
    /** What is neither 0 nor 1, for an end, a part or a what. */
    static final int[] OTHERS = {-1, 2, 3, 256, Integer.MIN_VALUE, Integer.MAX_VALUE};
    /** What is no number of survivors. */
    static final int[] NO_COUNTS = {0, -1, 25, 32, Integer.MIN_VALUE, Integer.MAX_VALUE};

    private Desks() {
    }

    /** Sources 0 on, each with the next two ends. */
    static ClockDesk of(long... ends) {
        ClockDesk desk = new ClockDesk();
        for (int i = 0; i + 1 < ends.length; i += 2) {
            hold(desk, i / 2, ends[i], ends[i + 1]);
        }
        return desk;
    }

    /** Sources 0 on, each with a single point as its interval. */
    static ClockDesk points(long... middles) {
        ClockDesk desk = new ClockDesk();
        for (int source = 0; source < middles.length; source++) {
            hold(desk, source, middles[source], middles[source]);
        }
        return desk;
    }

    /** So many sources from 0 on, all with the same interval. */
    static ClockDesk alike(int sources, long low, long high) {
        ClockDesk desk = new ClockDesk();
        for (int source = 0; source < sources; source++) {
            hold(desk, source, low, high);
        }
        return desk;
    }

    /** Its offset is 0 still. */
    static ClockDesk steeredTo(long goal) {
        ClockDesk desk = new ClockDesk();
        steer(desk, goal);
        return desk;
    }

    static void steer(ClockDesk desk, long goal) {
        hold(desk, 0, goal, goal);
        if (!desk.steer()) {
            throw new IllegalStateException("steer to " + goal);
        }
    }

    /** All that a desk tells of itself, by some 100 calls: a refused call leaves it as it is. */
    static String state(ClockDesk desk) {
        StringBuilder text = new StringBuilder();
        text.append(desk.sources()).append(' ').append(desk.greatest());
        for (int end = 0; end <= 1; end++) {
            text.append(' ').append(desk.region(end)).append(' ').append(desk.mean(Long.MAX_VALUE, end));
            text.append(' ').append(desk.offset(end));
            for (int f = 0; f < 6; f++) {
                text.append(' ').append(desk.hull(f, end));
            }
        }
        for (int source = 0; source < 24; source++) {
            text.append(' ').append(desk.chosen(source)).append(' ').append(desk.rank(source, 24));
        }
        for (int k = 1; k <= 6; k++) {
            text.append(' ').append(desk.survivors(k));
        }
        return text.append(' ').append(desk.read()).append(' ').append(desk.settles()).toString();
    }

    /** A test that can't make its desk has nothing to say, so it ends here. */
    private static void hold(ClockDesk desk, int source, long low, long high) {
        if (!desk.interval(source, low, high)) {
            throw new IllegalStateException("interval " + source + ": " + low + " .. " + high);
        }
    }
}
