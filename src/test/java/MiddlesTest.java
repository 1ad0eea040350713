/** Promises 11 to 13: mean, survivors, rank. */
public final class MiddlesTest {
    private static final long FAR = Desks.FAR;
    private static final Check CHECK = new Check();

    public static void main(String[] args) {
        middlesAreRoundedDown();
        meansOfAnOddNumber();
        theLesserMedianOfAnEvenNumber();
        meansAreRoundedDown();
        meansOfTheFarthest();
        theFarthestGoes();
        ofSeveralTheGreatestNumberGoes();
        theMeanIsTakenAnew();
        theMeanOfSurvivorsIsRoundedDown();
        survivorsOfTheFarthest();
        ranks();
        ranksOfTheSame();
        nothingIsChanged();
        CHECK.end();
    }

    private static void middlesAreRoundedDown() {
        ClockDesk desk = new ClockDesk();
        desk.interval(0, 2, 5);
        CHECK.mean(desk, 0, 3, 1);
        desk.interval(0, -5, -2);
        CHECK.mean(desk, 0, -4, 1);
        desk.interval(0, -1, 0);
        CHECK.mean(desk, 0, -1, 1);
    }

    private static void meansOfAnOddNumber() {
        ClockDesk desk = Desks.points(1000, 10, 14, 16, -50);
        CHECK.mean(desk, 0, 14, 1);
        CHECK.mean(desk, 1, 14, 1);
        CHECK.mean(desk, 2, 15, 2);
        CHECK.mean(desk, 3, 15, 2);
        CHECK.mean(desk, 4, 13, 3);
        CHECK.mean(desk, 63, 13, 3);
        CHECK.mean(desk, 64, -3, 4);
        CHECK.mean(desk, 985, -3, 4);
        CHECK.mean(desk, 986, 198, 5);
        CHECK.mean(desk, Long.MAX_VALUE, 198, 5);
    }

    private static void theLesserMedianOfAnEvenNumber() {
        CHECK.mean(Desks.points(20, 10), 0, 10, 1);
        CHECK.mean(Desks.points(30, 20, 10, 40), 0, 20, 1);
        CHECK.mean(Desks.points(30, 20, 20, 40), 0, 20, 2);
        CHECK.mean(Desks.points(7, 7, 1, 7), 0, 7, 3);
    }

    private static void meansAreRoundedDown() {
        CHECK.mean(Desks.points(0, 1), 1, 0, 2);
        CHECK.mean(Desks.points(0, -1), 1, -1, 2);
        CHECK.mean(Desks.points(-1, -1, 0), 1, -1, 3);
    }

    private static void meansOfTheFarthest() {
        ClockDesk desk = new ClockDesk();
        for (int source = 0; source < 24; source++) {
            desk.interval(source, FAR, FAR);
        }
        CHECK.mean(desk, 0, FAR, 24);
        desk.interval(0, -FAR, -FAR);
        CHECK.mean(desk, 2 * FAR - 1, FAR, 23);
        CHECK.mean(desk, 2 * FAR, Math.floorDiv(22 * FAR, 24L), 24);
        for (int source = 0; source < 24; source++) {
            desk.interval(source, -FAR, -FAR);
        }
        CHECK.mean(desk, Long.MAX_VALUE, -FAR, 24);
    }

    private static void theFarthestGoes() {
        CHECK.survivors(Desks.points(0, 100, 7), 1, 0b101, 0b111, 0b111);
        CHECK.survivors(Desks.points(-100, 0, 7), 0b010, 0b110, 0b111, 0b111);
        CHECK.survivors(Desks.points(5), 1, 1, 1);
        ClockDesk desk = new ClockDesk();
        desk.interval(23, 4, 4);
        desk.interval(11, 9, 9);
        desk.interval(2, 5, 5);
        CHECK.survivors(desk, 1 << 23, 1 << 2 | 1 << 23, 1 << 2 | 1 << 11 | 1 << 23);
        CHECK.due("survivors(24) of all there are", desk.survivors(24), 1 << 2 | 1 << 11 | 1 << 23);
    }

    private static void ofSeveralTheGreatestNumberGoes() {
        CHECK.survivors(Desks.points(0, 10), 0b01, 0b11);
        CHECK.survivors(Desks.points(10, 0), 0b01, 0b11);
        CHECK.survivors(Desks.points(3, 3, 3, 3), 0b0001, 0b0011, 0b0111, 0b1111);
        CHECK.survivors(Desks.points(-6, 0, 6), 0b001, 0b011, 0b111);
    }

    private static void theMeanIsTakenAnew() {
        // By the first mean, 40, the sources would go in the order 3, 0, 1, 2.
        CHECK.survivors(Desks.points(0, 9, 12, 139), 0b0010, 0b0110, 0b0111, 0b1111);
    }

    private static void theMeanOfSurvivorsIsRoundedDown() {
        // The mean of -1 and 0 is -1: 0 is farther; rounded up, the first would be.
        CHECK.survivors(Desks.points(-1, 0), 0b01, 0b11);
        CHECK.survivors(Desks.points(0, -1), 0b10, 0b11);
        CHECK.survivors(Desks.points(1, 0), 0b10, 0b11);
    }

    private static void survivorsOfTheFarthest() {
        ClockDesk desk = new ClockDesk();
        for (int source = 0; source < 24; source++) {
            long point = source < 12 ? -FAR : FAR;
            desk.interval(source, point, point);
        }
        for (int k = 1; k <= 24; k++) {
            CHECK.due("survivors(" + k + ") of both ends", desk.survivors(k), (1 << k) - 1);
        }
        desk.interval(0, FAR, FAR);
        CHECK.due("survivors(13)", desk.survivors(13), 0xFFF001);
        CHECK.due("survivors(23)", desk.survivors(23), 0xFFF7FF);
    }

    private static void ranks() {
        ClockDesk desk = Desks.points(30, -5, 12, 500, 11);
        CHECK.ranks(desk, 24, 3, 0, 2, 4, 1, -1);
        CHECK.ranks(desk, 5, 3, 0, 2, 4, 1, -1);
        CHECK.ranks(desk, 4, 3, 0, 2, -1, 1, -1);
        CHECK.ranks(desk, 3, -1, 0, 2, -1, 1, -1);
        CHECK.ranks(desk, 2, -1, -1, 1, -1, 0, -1);
        CHECK.ranks(desk, 1, -1, -1, -1, -1, 0, -1);
    }

    private static void ranksOfTheSame() {
        CHECK.ranks(Desks.points(4, 4, 4, 1), 24, 1, 2, 3, 0);
        ClockDesk desk = new ClockDesk();
        desk.interval(0, 0, 9);
        desk.interval(1, 3, 5);
        desk.interval(2, -90, 98);
        CHECK.ranks(desk, 24, 0, 1, 2);
        desk.interval(0, 0, 10);
        CHECK.ranks(desk, 24, 2, 0, 1);
    }

    private static void nothingIsChanged() {
        ClockDesk desk = Desks.points(1, 2, 300);
        desk.survivors(1);
        desk.rank(0, 1);
        desk.mean(0, 0);
        CHECK.due("sources", desk.sources(), 3);
        CHECK.due("survivors(3)", desk.survivors(3), 0b111);
        CHECK.due("covers(300)", desk.covers(300), 1);
    }
}
