/**
 * Rule 7 of LANGUAGE.md: no call ever throws, for any arguments in any state. An exception ends this test, and so
 * fails it; what is answered is looked at elsewhere, but for the bounds within which every answer lies.
 */
public final class AnyArgumentsTest {
    private static final long FAR = Desks.FAR;
    private static final long LATEST = Desks.LATEST;
    private static final long NO = Desks.NO;
    private static final int[] INTS = {Integer.MIN_VALUE, Integer.MIN_VALUE + 1, -33, -32, -9, -8, -2, -1, 0, 1, 2,
        11, 12, 22, 23, 24, 25, 31, 32, 33, 55, 56, 64, Integer.MAX_VALUE - 1, Integer.MAX_VALUE};
    private static final long[] LONGS = {Long.MIN_VALUE, Long.MIN_VALUE + 1, NO - 1, NO, NO + 1, -FAR - 1, -FAR,
        -FAR + 1, -LATEST, -1, 0, 1, 1999, 2000, Desks.REACH, LATEST - 1, LATEST, LATEST + 1, FAR - 1, FAR, FAR + 1,
        -NO, Long.MAX_VALUE - 1, Long.MAX_VALUE};
    private static final int STATES = 8;
    private static final Check CHECK = new Check();

    public static void main(String[] args) {
        for (int state = 0; state < STATES; state++) {
            askWithInts(state);
            askWithLongs(state);
            askForHulls(state);
            askForRanks(state);
            changeIntervals(state);
            changeByExchanges(state);
        }
        CHECK.end();
    }

    private static ClockDesk desk(int state) {
        return switch (state) {
            case 0 -> new ClockDesk();
            case 1 -> Desks.of(-FAR, FAR);
            case 2 -> Desks.points(FAR, -FAR);
            case 3 -> Desks.alike(24, -FAR, FAR);
            case 4 -> Desks.alike(24, FAR, FAR);
            case 5 -> Desks.alike(24, -FAR, -FAR);
            case 6 -> atTheLatest(FAR, -FAR);
            default -> atTheLatest(-FAR, FAR);
        };
    }

    private static ClockDesk atTheLatest(long first, long then) {
        ClockDesk desk = Desks.steeredTo(first);
        desk.tick(LATEST);
        Desks.steer(desk, then);
        return desk;
    }

    private static void isOffset(String call, long answer) {
        CHECK.due(call + " is an offset or none: " + answer, answer == NO || answer >= -FAR && answer <= FAR, true);
    }

    private static void isCount(String call, long answer) {
        CHECK.due(call + " is 0 .. 24: " + answer, answer >= 0 && answer <= 24, true);
    }

    private static void askWithInts(int state) {
        ClockDesk desk = desk(state);
        String before = Desks.state(desk);
        for (int x : INTS) {
            isOffset("region(" + x + ")", desk.region(x));
            isOffset("offset(" + x + ")", desk.offset(x));
            int left = desk.survivors(x);
            CHECK.due("survivors(" + x + ") are 24 bits or none: " + left,
                    left == Desks.NONE || left >= 0 && left < 1 << 24, true);
            CHECK.due("chosen(" + x + ") of sources", desk.chosen(x) && (x < 0 || x > 23), false);
            isOffset("mean(0, " + x + ")", desk.mean(0, x));
        }
        isCount("sources()", desk.sources());
        isCount("greatest()", desk.greatest());
        CHECK.due("settles() is none or not below 0", desk.settles() == NO || desk.settles() >= 0, true);
        CHECK.same("the state " + state, Desks.state(desk), before);
    }

    private static void askWithLongs(int state) {
        ClockDesk desk = desk(state);
        for (long x : LONGS) {
            isCount("covers(" + x + ")", desk.covers(x));
            isOffset("mean(" + x + ", 0)", desk.mean(x, 0));
            isOffset("mean(" + x + ", 1)", desk.mean(x, 1));
            long shown = desk.read();
            desk.tick(x);
            CHECK.due("read() after tick(" + x + ") is not before", desk.read() >= shown, true);
            desk.steer();
            CHECK.due("settles() is none or not below 0", desk.settles() == NO || desk.settles() >= 0, true);
        }
    }

    private static void askForHulls(int state) {
        for (int f : INTS) {
            ClockDesk desk = desk(state);
            for (int end : INTS) {
                isOffset("hull(" + f + ", " + end + ")", desk.hull(f, end));
            }
        }
    }

    private static void askForRanks(int state) {
        for (int source : INTS) {
            ClockDesk desk = desk(state);
            for (int k : INTS) {
                int rank = desk.rank(source, k);
                CHECK.due("rank(" + source + ", " + k + ") is -1 .. 23: " + rank, rank >= -1 && rank <= 23, true);
            }
        }
    }

    private static void changeIntervals(int state) {
        for (int source : INTS) {
            for (long low : LONGS) {
                ClockDesk desk = desk(state);
                for (long high : LONGS) {
                    boolean taken = desk.interval(source, low, high);
                    boolean right = source >= 0 && source <= 23 && low >= -FAR && low <= high && high <= FAR;
                    CHECK.due("interval(" + source + ", " + low + ", " + high + ")", taken, right);
                }
                isOffset("region(0)", desk.region(0));
                isOffset("region(1)", desk.region(1));
                desk.drop(source);
                CHECK.due("drop(" + source + ") again", desk.drop(source), false);
            }
        }
    }

    private static void changeByExchanges(int state) {
        int[] sources = {-1, 0, 23, 24, 32};
        for (int source : sources) {
            for (long sent : LONGS) {
                for (long came : LONGS) {
                    exchangeAll(desk(state), source, sent, came);
                }
            }
        }
    }

    private static void exchangeAll(ClockDesk desk, int source, long sent, long came) {
        boolean right = source >= 0 && source <= 23 && sent >= 0 && sent <= came && came <= LATEST;
        for (long told : LONGS) {
            long answer = desk.exchange(source, sent, told, came);
            CHECK.due("exchange(" + source + ", " + sent + ", " + told + ", " + came + ") is taken",
                    answer != NO, right && told >= 0 && told <= LATEST);
            isOffset("its answer", answer);
        }
    }
}
