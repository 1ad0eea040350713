/** Each sentence of promises 11 to 13 that names a boundary, at it and one beyond it. */
public final class MiddlesEdgesTest {
    private static final long FAR = Desks.FAR;
    private static final long NO = Desks.NO;
    private static final int NONE = Desks.NONE;
    private static final Check CHECK = new Check();

    public static void main(String[] args) {
        meanRoundedDown();
        meanNotFartherThanLimit();
        meanWithAMedianOfAnOddNumber();
        meanWithTheLesserMedianOfAnEvenNumber();
        meanOfTheFarthest();
        meanWithoutIntervals();
        meanWithALimitBelow0();
        meanForOthers();
        survivorsMoreThanK();
        survivorsWithoutIntervals();
        survivorsTheFarthestGoes();
        survivorsByAMeanRoundedDown();
        survivorsByAMeanOfThoseLeft();
        survivorsOfSeveralTheGreatestNumberGoes();
        survivorsAsBits();
        survivorsOfTheFarthest();
        survivorsOfNoCount();
        rankFrom0On();
        rankOfTheSame();
        rankOfOneThatHasGone();
        rankOfOneWithoutAnInterval();
        rankOfNoSuchSource();
        rankOfNoCount();
        CHECK.end();
    }

    private static void meanRoundedDown() {
        CHECK.sentence("Promise 11, the mean, rounded down");
        CHECK.mean(Desks.points(0, 2), 2, 1, 2);
        CHECK.mean(Desks.points(0, 1), 1, 0, 2);
        CHECK.mean(Desks.points(0, -1), 1, -1, 2);
        CHECK.mean(Desks.points(0, -2), 2, -1, 2);
        CHECK.mean(Desks.points(0, 0, 1), 1, 0, 3);
        CHECK.mean(Desks.points(0, 1, 1), 1, 0, 3);
        CHECK.mean(Desks.points(0, 0, -1), 1, -1, 3);
        CHECK.mean(Desks.points(0, -1, -1), 1, -1, 3);
        CHECK.mean(Desks.points(-1, -1, -1), 1, -1, 3);
    }

    private static void meanNotFartherThanLimit() {
        CHECK.sentence("Promise 11, not farther than limit from the median");
        ClockDesk desk = Desks.points(10, 0, -30);
        CHECK.mean(desk, 0, 0, 1);
        CHECK.mean(desk, 9, 0, 1);
        CHECK.mean(desk, 10, 5, 2);
        CHECK.mean(desk, 11, 5, 2);
        CHECK.mean(desk, 29, 5, 2);
        CHECK.mean(desk, 30, -7, 3);
        CHECK.mean(desk, Long.MAX_VALUE, -7, 3);
    }

    private static void meanWithAMedianOfAnOddNumber() {
        CHECK.sentence("Promise 11, the median of all middles, of an odd number");
        CHECK.mean(Desks.points(-7), 0, -7, 1);
        CHECK.mean(Desks.points(30, 10, 20), 0, 20, 1);
        CHECK.mean(Desks.points(10, 10, 20), 0, 10, 2);
        CHECK.mean(Desks.points(50, 40, 30, 20, 10), 0, 30, 1);
        ClockDesk desk = new ClockDesk();
        for (int source = 0; source < 23; source++) {
            desk.interval(source, -source, -source);
        }
        CHECK.mean(desk, 0, -11, 1);
    }

    private static void meanWithTheLesserMedianOfAnEvenNumber() {
        CHECK.sentence("Promise 11, of an even number the lesser one of both");
        CHECK.mean(Desks.points(20, 10), 0, 10, 1);
        CHECK.mean(Desks.points(10, 20), 0, 10, 1);
        CHECK.mean(Desks.points(40, 30, 20, 10), 0, 20, 1);
        CHECK.mean(Desks.points(40, 30, 20, 10), 10, 20, 3);
        CHECK.mean(Desks.points(40, 20, 20, 10), 0, 20, 2);
        CHECK.mean(Desks.points(-40, -30, -20, -10), 0, -30, 1);
        ClockDesk desk = new ClockDesk();
        for (int source = 0; source < 24; source++) {
            desk.interval(source, -source, -source);
        }
        CHECK.mean(desk, 0, -12, 1);
    }

    private static void meanOfTheFarthest() {
        CHECK.sentence("Promise 11, middles at - 2^58 and 2^58");
        CHECK.mean(Desks.alike(24, FAR, FAR), 0, FAR, 24);
        CHECK.mean(Desks.alike(24, -FAR, -FAR), 0, -FAR, 24);
        ClockDesk desk = Desks.points(-FAR, FAR);
        CHECK.mean(desk, 2 * FAR - 1, -FAR, 1);
        CHECK.mean(desk, 2 * FAR, 0, 2);
        CHECK.mean(desk, 2 * FAR + 1, 0, 2);
        CHECK.mean(desk, Long.MAX_VALUE, 0, 2);
    }

    private static void meanWithoutIntervals() {
        CHECK.sentence("Promise 11, NO_OFFSET without intervals");
        ClockDesk desk = new ClockDesk();
        CHECK.mean(desk, 0, NO, NO);
        CHECK.mean(desk, Long.MAX_VALUE, NO, NO);
        desk.interval(8, 5, 5);
        CHECK.mean(desk, 0, 5, 1);
        desk.drop(8);
        CHECK.mean(desk, 0, NO, NO);
    }

    private static void meanWithALimitBelow0() {
        CHECK.sentence("Promise 11, NO_OFFSET when limit is below 0");
        ClockDesk desk = Desks.points(1, 2, 3);
        CHECK.mean(desk, -1, NO, NO);
        CHECK.mean(desk, Long.MIN_VALUE, NO, NO);
        CHECK.mean(desk, 0, 2, 1);
    }

    private static void meanForOthers() {
        CHECK.sentence("Promise 11, NO_OFFSET for others");
        ClockDesk desk = Desks.points(1, 2, 3);
        for (int part : Desks.OTHERS) {
            CHECK.due("mean(1, " + part + ")", desk.mean(1, part), NO);
        }
        CHECK.mean(desk, 1, 2, 3);
    }

    private static void survivorsMoreThanK() {
        CHECK.sentence("Promise 12, as long as there are more than k sources left");
        CHECK.survivors(Desks.points(0, 1, 50), 0b001, 0b011, 0b111, 0b111);
        CHECK.due("survivors(24) of 3", Desks.points(0, 1, 50).survivors(24), 0b111);
        CHECK.due("survivors(1) of 1", Desks.points(9).survivors(1), 1);
        ClockDesk full = Desks.alike(24, 0, 0);
        full.interval(5, 90, 90);
        CHECK.due("survivors(24) of 24", full.survivors(24), 0xFFFFFF);
        CHECK.due("survivors(23) of 24", full.survivors(23), 0xFFFFDF);
    }

    private static void survivorsWithoutIntervals() {
        CHECK.sentence("Promise 12, of those with intervals, there being none");
        ClockDesk desk = new ClockDesk();
        CHECK.due("survivors(1)", desk.survivors(1), 0);
        CHECK.due("survivors(24)", desk.survivors(24), 0);
        desk.interval(3, 0, 0);
        CHECK.due("survivors(1) of one", desk.survivors(1), 0b1000);
        desk.drop(3);
        CHECK.due("survivors(1) after drop", desk.survivors(1), 0);
    }

    private static void survivorsTheFarthestGoes() {
        CHECK.sentence("Promise 12, the one whose middle is farthest from the mean goes");
        CHECK.due("one farther above", Desks.points(0, 9, 19).survivors(2), 0b011);
        CHECK.due("one farther below", Desks.points(0, 11, 19).survivors(2), 0b110);
        CHECK.due("as far on both sides", Desks.points(0, 9, 18).survivors(2), 0b011);
        CHECK.due("as far, turned round", Desks.points(18, 9, 0).survivors(2), 0b011);
    }

    private static void survivorsByAMeanRoundedDown() {
        CHECK.sentence("Promise 12, the mean, rounded down");
        CHECK.survivors(Desks.points(0, 1), 0b01, 0b11);
        CHECK.survivors(Desks.points(1, 0), 0b10, 0b11);
        CHECK.survivors(Desks.points(-1, 0), 0b01, 0b11);
        CHECK.survivors(Desks.points(0, -1), 0b10, 0b11);
        CHECK.survivors(Desks.points(-2, 0), 0b01, 0b11);
        CHECK.survivors(Desks.points(0, -2), 0b01, 0b11);
    }

    private static void survivorsByAMeanOfThoseLeft() {
        CHECK.sentence("Promise 12, the mean of the middles of all that are left");
        // By the first mean, 40, the sources would go in the order 3, 0, 1, 2.
        CHECK.survivors(Desks.points(0, 9, 12, 139), 0b0010, 0b0110, 0b0111, 0b1111);
    }

    private static void survivorsOfSeveralTheGreatestNumberGoes() {
        CHECK.sentence("Promise 12, of several the one with the greatest number");
        CHECK.survivors(Desks.points(5, 5), 0b01, 0b11);
        CHECK.survivors(Desks.points(0, 10), 0b01, 0b11);
        CHECK.survivors(Desks.points(10, 0), 0b01, 0b11);
        CHECK.survivors(Desks.points(10, 5, 0), 0b010, 0b011, 0b111);
        ClockDesk desk = new ClockDesk();
        desk.interval(0, 3, 3);
        desk.interval(23, 3, 3);
        CHECK.survivors(desk, 1, 1 | 1 << 23);
        desk = Desks.alike(24, 8, 8);
        for (int k = 1; k <= 24; k++) {
            CHECK.due("survivors(" + k + ") of the same", desk.survivors(k), (1 << k) - 1);
        }
    }

    private static void survivorsAsBits() {
        CHECK.sentence("Promise 12, the numbers of those that are left, as bits");
        for (int source = 0; source < 24; source++) {
            ClockDesk desk = new ClockDesk();
            desk.interval(source, 4, 4);
            CHECK.due("survivors(1) of " + source, desk.survivors(1), 1 << source);
        }
    }

    private static void survivorsOfTheFarthest() {
        CHECK.sentence("Promise 12, middles at - 2^58 and 2^58");
        ClockDesk desk = Desks.alike(24, FAR, FAR);
        desk.interval(0, -FAR, -FAR);
        CHECK.due("survivors(23)", desk.survivors(23), 0xFFFFFE);
        desk = Desks.alike(24, -FAR, -FAR);
        desk.interval(0, FAR, FAR);
        CHECK.due("survivors(23)", desk.survivors(23), 0xFFFFFE);
        CHECK.due("survivors(1)", desk.survivors(1), 0b10);
    }

    private static void survivorsOfNoCount() {
        CHECK.sentence("Promise 12, NONE when k is not 1 .. 24");
        ClockDesk desk = Desks.points(1, 2, 3);
        String before = Desks.state(desk);
        for (int k : Desks.NO_COUNTS) {
            CHECK.due("survivors(" + k + ")", desk.survivors(k), NONE);
            CHECK.due("survivors(" + k + ") without intervals", new ClockDesk().survivors(k), NONE);
        }
        CHECK.due("survivors(1)", desk.survivors(1), 0b001);
        CHECK.due("survivors(24)", desk.survivors(24), 0b111);
        CHECK.same("the state", Desks.state(desk), before);
    }

    private static void rankFrom0On() {
        CHECK.sentence("Promise 13, its rank by its middle, from 0 on");
        CHECK.ranks(Desks.points(9), 1, 0);
        CHECK.ranks(Desks.points(30, 10, 20), 3, 2, 0, 1);
        CHECK.ranks(Desks.points(FAR, -FAR, 0), 24, 2, 0, 1);
        ClockDesk desk = new ClockDesk();
        for (int source = 0; source < 24; source++) {
            desk.interval(source, -source, -source);
        }
        CHECK.due("rank(23, 24) of 24", desk.rank(23, 24), 0);
        CHECK.due("rank(0, 24) of 24", desk.rank(0, 24), 23);
    }

    private static void rankOfTheSame() {
        CHECK.sentence("Promise 13, of the same the lesser number first");
        CHECK.ranks(Desks.points(4, 4), 2, 0, 1);
        CHECK.ranks(Desks.points(4, 5), 2, 0, 1);
        CHECK.ranks(Desks.points(5, 4), 2, 1, 0);
        CHECK.ranks(Desks.points(4, 4, 1, 4), 24, 1, 2, 0, 3);
        CHECK.ranks(Desks.of(3, 6, 4, 4), 2, 0, 1);
        CHECK.ranks(Desks.of(4, 6, 4, 4), 2, 1, 0);
        ClockDesk full = Desks.alike(24, 8, 8);
        for (int source = 0; source < 24; source++) {
            CHECK.due("rank(" + source + ", 24) of the same", full.rank(source, 24), source);
        }
    }

    private static void rankOfOneThatHasGone() {
        CHECK.sentence("Promise 13, NONE when it is none of them, for it has gone");
        ClockDesk desk = Desks.points(50, 0, 1);
        CHECK.ranks(desk, 3, 2, 0, 1);
        CHECK.ranks(desk, 2, NONE, 0, 1);
        CHECK.ranks(desk, 1, NONE, 0, NONE);
        ClockDesk below = Desks.points(-50, 0, 1);
        CHECK.ranks(below, 3, 0, 1, 2);
        CHECK.ranks(below, 2, NONE, 0, 1);
    }

    private static void rankOfOneWithoutAnInterval() {
        CHECK.sentence("Promise 13, NONE when it is none of them, for it has no interval");
        ClockDesk desk = Desks.points(1, 2);
        CHECK.due("rank(2, 24)", desk.rank(2, 24), NONE);
        CHECK.due("rank(1, 24)", desk.rank(1, 24), 1);
        desk.drop(1);
        CHECK.due("rank(1, 24) after drop", desk.rank(1, 24), NONE);
        CHECK.due("rank(0, 24)", desk.rank(0, 24), 0);
        CHECK.due("rank(0, 1) of a new one", new ClockDesk().rank(0, 1), NONE);
    }

    private static void rankOfNoSuchSource() {
        CHECK.sentence("Promise 13, NONE when it is none of them, for it is no source");
        ClockDesk desk = Desks.alike(24, 0, 0);
        for (int source : Desks.NO_SOURCES) {
            CHECK.due("rank(" + source + ", 24)", desk.rank(source, 24), NONE);
        }
        CHECK.due("rank(0, 24)", desk.rank(0, 24), 0);
        CHECK.due("rank(23, 24)", desk.rank(23, 24), 23);
    }

    private static void rankOfNoCount() {
        CHECK.sentence("Promise 13, NONE when k not 1 .. 24");
        ClockDesk desk = Desks.points(1, 2, 3);
        for (int k : Desks.NO_COUNTS) {
            for (int source = 0; source < 3; source++) {
                CHECK.due("rank(" + source + ", " + k + ")", desk.rank(source, k), NONE);
            }
        }
        CHECK.ranks(desk, 1, 0, NONE, NONE);
        CHECK.ranks(desk, 24, 0, 1, 2);
    }
}
