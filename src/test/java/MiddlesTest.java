/** Promises 11 to 13: mean, survivors, rank. */
public final class MiddlesTest {
    private static final long FAR = 1L << 58;
    private static final long NO = ClockDesk.NO_OFFSET;
    private static final Check CHECK = new Check();

    public static void main(String[] args) {
        middlesAreRoundedDown();
        meansOfAnOddNumber();
        theLesserMedianOfAnEvenNumber();
        meansAreRoundedDown();
        meansOfTheFarthest();
        wrongMeans();
        theFarthestGoes();
        ofSeveralTheGreatestNumberGoes();
        theMeanIsTakenAnew();
        theMeanOfSurvivorsIsRoundedDown();
        survivorsOfTheFarthest();
        wrongSurvivors();
        ranks();
        ranksOfTheSame();
        wrongRanks();
        nothingIsChanged();
        CHECK.end();
    }

    /** Sources 0 on, each with a single point as its interval. */
    private static ClockDesk points(long... middles) {
        ClockDesk desk = new ClockDesk();
        for (int source = 0; source < middles.length; source++) {
            CHECK.due("interval " + source, desk.interval(source, middles[source], middles[source]), true);
        }
        return desk;
    }

    private static void dueMean(ClockDesk desk, long limit, long mean, long count) {
        CHECK.due("mean(" + limit + ", 0)", desk.mean(limit, 0), mean);
        CHECK.due("mean(" + limit + ", 1)", desk.mean(limit, 1), count);
    }

    private static void middlesAreRoundedDown() {
        ClockDesk desk = new ClockDesk();
        desk.interval(0, 2, 5);
        dueMean(desk, 0, 3, 1);
        desk.interval(0, -5, -2);
        dueMean(desk, 0, -4, 1);
        desk.interval(0, -1, 0);
        dueMean(desk, 0, -1, 1);
    }

    private static void meansOfAnOddNumber() {
        ClockDesk desk = points(1000, 10, 14, 16, -50);
        dueMean(desk, 0, 14, 1);
        dueMean(desk, 1, 14, 1);
        dueMean(desk, 2, 15, 2);
        dueMean(desk, 3, 15, 2);
        dueMean(desk, 4, 13, 3);
        dueMean(desk, 63, 13, 3);
        dueMean(desk, 64, -3, 4);
        dueMean(desk, 985, -3, 4);
        dueMean(desk, 986, 198, 5);
        dueMean(desk, Long.MAX_VALUE, 198, 5);
    }

    private static void theLesserMedianOfAnEvenNumber() {
        dueMean(points(20, 10), 0, 10, 1);
        dueMean(points(30, 20, 10, 40), 0, 20, 1);
        dueMean(points(30, 20, 20, 40), 0, 20, 2);
        dueMean(points(7, 7, 1, 7), 0, 7, 3);
    }

    private static void meansAreRoundedDown() {
        dueMean(points(0, 1), 1, 0, 2);
        dueMean(points(0, -1), 1, -1, 2);
        dueMean(points(-1, -1, 0), 1, -1, 3);
    }

    private static void meansOfTheFarthest() {
        ClockDesk desk = new ClockDesk();
        for (int source = 0; source < 24; source++) {
            desk.interval(source, FAR, FAR);
        }
        dueMean(desk, 0, FAR, 24);
        desk.interval(0, -FAR, -FAR);
        dueMean(desk, 2 * FAR - 1, FAR, 23);
        dueMean(desk, 2 * FAR, Math.floorDiv(22 * FAR, 24L), 24);
        for (int source = 0; source < 24; source++) {
            desk.interval(source, -FAR, -FAR);
        }
        dueMean(desk, Long.MAX_VALUE, -FAR, 24);
    }

    private static void wrongMeans() {
        ClockDesk desk = points(1, 2, 3);
        dueMean(desk, -1, NO, NO);
        dueMean(desk, Long.MIN_VALUE, NO, NO);
        int[] others = {-1, 2, Integer.MIN_VALUE, Integer.MAX_VALUE};
        for (int part : others) {
            CHECK.due("mean(1, " + part + ")", desk.mean(1, part), NO);
        }
        dueMean(points(), 1, NO, NO);
    }

    private static void dueSurvivors(ClockDesk desk, int... wanted) {
        for (int k = 1; k <= wanted.length; k++) {
            CHECK.due("survivors(" + k + ")", desk.survivors(k), wanted[k - 1]);
        }
    }

    private static void theFarthestGoes() {
        dueSurvivors(points(0, 100, 7), 1, 0b101, 0b111, 0b111);
        dueSurvivors(points(-100, 0, 7), 0b010, 0b110, 0b111, 0b111);
        dueSurvivors(points(5), 1, 1, 1);
        ClockDesk desk = new ClockDesk();
        desk.interval(23, 4, 4);
        desk.interval(11, 9, 9);
        desk.interval(2, 5, 5);
        dueSurvivors(desk, 1 << 23, 1 << 2 | 1 << 23, 1 << 2 | 1 << 11 | 1 << 23);
        CHECK.due("survivors(24) of all there are", desk.survivors(24), 1 << 2 | 1 << 11 | 1 << 23);
    }

    private static void ofSeveralTheGreatestNumberGoes() {
        dueSurvivors(points(0, 10), 0b01, 0b11);
        dueSurvivors(points(10, 0), 0b01, 0b11);
        dueSurvivors(points(3, 3, 3, 3), 0b0001, 0b0011, 0b0111, 0b1111);
        dueSurvivors(points(-6, 0, 6), 0b001, 0b011, 0b111);
    }

    private static void theMeanIsTakenAnew() {
        // By the first mean, 40, the sources would go in the order 3, 0, 1, 2.
        dueSurvivors(points(0, 9, 12, 139), 0b0010, 0b0110, 0b0111, 0b1111);
    }

    private static void theMeanOfSurvivorsIsRoundedDown() {
        // The mean of -1 and 0 is -1: 0 is farther; rounded up, the first would be.
        dueSurvivors(points(-1, 0), 0b01, 0b11);
        dueSurvivors(points(0, -1), 0b10, 0b11);
        dueSurvivors(points(1, 0), 0b10, 0b11);
    }

    private static void survivorsOfTheFarthest() {
        ClockDesk desk = new ClockDesk();
        for (int source = 0; source < 24; source++) {
            long point = source < 12 ? -FAR : FAR;
            desk.interval(source, point, point);
        }
        for (int k = 1; k <= 24; k++) {
            CHECK.due("survivors(" + k + ") of both ends", desk.survivors(k), (1 << k) - 1);
        }
        desk.interval(0, FAR, FAR);
        CHECK.due("survivors(13)", desk.survivors(13), 0xFFF001);
        CHECK.due("survivors(23)", desk.survivors(23), 0xFFF7FF);
    }

    private static void wrongSurvivors() {
        ClockDesk desk = points(1, 2, 3);
        int[] wrong = {0, -1, 25, Integer.MIN_VALUE, Integer.MAX_VALUE};
        for (int k : wrong) {
            CHECK.due("survivors(" + k + ")", desk.survivors(k), ClockDesk.NONE);
            CHECK.due("survivors(" + k + ") of none", points().survivors(k), ClockDesk.NONE);
        }
        CHECK.due("survivors(1) of none", points().survivors(1), 0);
        CHECK.due("survivors(24) of none", points().survivors(24), 0);
    }

    private static void dueRanks(ClockDesk desk, int k, int... wanted) {
        for (int source = 0; source < wanted.length; source++) {
            CHECK.due("rank(" + source + ", " + k + ")", desk.rank(source, k), wanted[source]);
        }
    }

    private static void ranks() {
        ClockDesk desk = points(30, -5, 12, 500, 11);
        dueRanks(desk, 24, 3, 0, 2, 4, 1, -1);
        dueRanks(desk, 5, 3, 0, 2, 4, 1, -1);
        dueRanks(desk, 4, 3, 0, 2, -1, 1, -1);
        dueRanks(desk, 3, -1, 0, 2, -1, 1, -1);
        dueRanks(desk, 2, -1, -1, 1, -1, 0, -1);
        dueRanks(desk, 1, -1, -1, -1, -1, 0, -1);
    }

    private static void ranksOfTheSame() {
        dueRanks(points(4, 4, 4, 1), 24, 1, 2, 3, 0);
        ClockDesk desk = new ClockDesk();
        desk.interval(0, 0, 9);
        desk.interval(1, 3, 5);
        desk.interval(2, -90, 98);
        dueRanks(desk, 24, 0, 1, 2);
        desk.interval(0, 0, 10);
        dueRanks(desk, 24, 2, 0, 1);
    }

    private static void wrongRanks() {
        ClockDesk desk = points(1, 2, 3);
        int[] noSources = {-1, 3, 23, 24, 32, -32, Integer.MIN_VALUE, Integer.MAX_VALUE};
        for (int source : noSources) {
            CHECK.due("rank(" + source + ", 3)", desk.rank(source, 3), ClockDesk.NONE);
        }
        int[] wrong = {0, -1, 25, Integer.MIN_VALUE, Integer.MAX_VALUE};
        for (int k : wrong) {
            CHECK.due("rank(0, " + k + ")", desk.rank(0, k), ClockDesk.NONE);
        }
        CHECK.due("rank of none", points().rank(0, 1), ClockDesk.NONE);
    }

    private static void nothingIsChanged() {
        ClockDesk desk = points(1, 2, 300);
        desk.survivors(1);
        desk.rank(0, 1);
        desk.mean(0, 0);
        CHECK.due("sources", desk.sources(), 3);
        CHECK.due("survivors(3)", desk.survivors(3), 0b111);
        CHECK.due("covers(300)", desk.covers(300), 1);
    }
}
