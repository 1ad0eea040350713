/** Each sentence of 'What it is' and 'Terms' that names a boundary, at it and one beyond it. */
public final class TermsEdgesTest {
    private static final long FAR = Desks.FAR;
    private static final long NO = Desks.NO;
    private static final Check CHECK = new Check();

    public static void main(String[] args) {
        atMost512Calls();
        offsetsFromTheLeastToTheGreatest();
        sources0To23();
        atMostOneInterval();
        aMiddleIsRoundedDown();
        aMiddleOfTheFarthestEnds();
        coveredFromLowToHigh();
        coveredByAnIntervalOfOnePoint();
        pointsOneBesideTheOther();
        otherPointsBetween();
        coveredByTheGreatestNumber();
        theRowThatLiesFirst();
        noOffset();
        CHECK.end();
    }

    private static void atMost512Calls() {
        CHECK.sentence("used for at most 512 calls");
        ClockDesk desk = new ClockDesk();
        for (int call = 1; call <= 509; call++) {
            CHECK.due("tick, call " + call, desk.tick(call * 2000L), true);
        }
        CHECK.due("interval, call 510", desk.interval(23, -4, -4), true);
        CHECK.due("steer, call 511", desk.steer(), true);
        CHECK.due("settles, call 512", desk.settles(), 8000);
    }

    private static void offsetsFromTheLeastToTheGreatest() {
        CHECK.sentence("OFFSETS are whole numbers from - 2^58 to 2^58");
        ClockDesk desk = Desks.of(-FAR, FAR);
        CHECK.due("covers(-2^58)", desk.covers(-FAR), 1);
        CHECK.due("covers(-2^58 - 1)", desk.covers(-FAR - 1), 0);
        CHECK.due("covers(2^58)", desk.covers(FAR), 1);
        CHECK.due("covers(2^58 + 1)", desk.covers(FAR + 1), 0);
        CHECK.due("region(0)", desk.region(0), -FAR);
        CHECK.due("region(1)", desk.region(1), FAR);
        CHECK.due("hull(0, 0)", desk.hull(0, 0), -FAR);
        CHECK.due("hull(0, 1)", desk.hull(0, 1), FAR);
    }

    private static void sources0To23() {
        CHECK.sentence("each SOURCE 0 .. 23");
        int[] outermost = {0, 23};
        for (int source : outermost) {
            ClockDesk desk = new ClockDesk();
            CHECK.due("interval of " + source, desk.interval(source, 1, 1), true);
            CHECK.due("exchange of " + source, desk.exchange(source, 5, 8, 5), 3);
            CHECK.due("chosen " + source, desk.chosen(source), true);
            CHECK.due("survivors(1)", desk.survivors(1), 1 << source);
            CHECK.due("rank of " + source, desk.rank(source, 1), 0);
            CHECK.due("drop of " + source, desk.drop(source), true);
        }
        int[] beyond = {-1, 24};
        for (int source : beyond) {
            ClockDesk desk = new ClockDesk();
            CHECK.due("interval of " + source, desk.interval(source, 1, 1), false);
            CHECK.due("exchange of " + source, desk.exchange(source, 5, 8, 5), NO);
            CHECK.due("chosen " + source, desk.chosen(source), false);
            CHECK.due("survivors(1)", desk.survivors(1), 0);
            CHECK.due("rank of " + source, desk.rank(source, 1), Desks.NONE);
            CHECK.due("drop of " + source, desk.drop(source), false);
        }
    }

    private static void atMostOneInterval() {
        CHECK.sentence("Each SOURCE has at most one INTERVAL");
        ClockDesk desk = Desks.of(0, 9);
        desk.interval(0, 5, 12);
        CHECK.due("sources", desk.sources(), 1);
        CHECK.due("greatest", desk.greatest(), 1);
        CHECK.due("covers(4), of the first alone", desk.covers(4), 0);
        CHECK.due("covers(5), of both", desk.covers(5), 1);
        CHECK.due("covers(12), of the second alone", desk.covers(12), 1);
        desk.drop(0);
        CHECK.due("covers(5), after drop", desk.covers(5), 0);
    }

    private static void aMiddleIsRoundedDown() {
        CHECK.sentence("a source's MIDDLE is (low + high) / 2, rounded down");
        dueMiddle(2, 4, 3);
        dueMiddle(2, 5, 3);
        dueMiddle(0, 1, 0);
        dueMiddle(-1, 1, 0);
        dueMiddle(-1, 0, -1);
        dueMiddle(-4, 1, -2);
        dueMiddle(-4, -2, -3);
        dueMiddle(-5, -2, -4);
    }

    private static void aMiddleOfTheFarthestEnds() {
        CHECK.sentence("the MIDDLE of the farthest ends");
        dueMiddle(FAR, FAR, FAR);
        dueMiddle(FAR - 1, FAR, FAR - 1);
        dueMiddle(-FAR, -FAR, -FAR);
        dueMiddle(-FAR, -FAR + 1, -FAR);
        dueMiddle(-FAR, FAR, 0);
        dueMiddle(-FAR, FAR - 1, -1);
        dueMiddle(-FAR + 1, FAR, 0);
    }

    /** Of a source that stands alone, the mean is its middle. */
    private static void dueMiddle(long low, long high, long want) {
        CHECK.due("of " + low + " .. " + high, Desks.of(low, high).mean(0, 0), want);
    }

    private static void coveredFromLowToHigh() {
        CHECK.sentence("p is COVERED by those with low <= p <= high");
        ClockDesk desk = Desks.of(-3, 4);
        CHECK.due("covers(low - 1)", desk.covers(-4), 0);
        CHECK.due("covers(low)", desk.covers(-3), 1);
        CHECK.due("covers(high)", desk.covers(4), 1);
        CHECK.due("covers(high + 1)", desk.covers(5), 0);
    }

    private static void coveredByAnIntervalOfOnePoint() {
        CHECK.sentence("p is COVERED by those with low <= p <= high, low being high");
        ClockDesk desk = Desks.of(7, 7);
        CHECK.due("covers(6)", desk.covers(6), 0);
        CHECK.due("covers(7)", desk.covers(7), 1);
        CHECK.due("covers(8)", desk.covers(8), 0);
    }

    private static void pointsOneBesideTheOther() {
        CHECK.sentence("the row of points, one beside the other");
        dueRegion(Desks.of(0, 5, 6, 9), 0, 9);
        dueRegion(Desks.of(6, 9, 0, 5), 0, 9);
        dueRegion(Desks.of(0, 0, 1, 1, 2, 2), 0, 2);
        dueRegion(Desks.of(-100, 100, 6, 9, 0, 5), 0, 9);
        dueRegion(Desks.of(0, 10, 5, 15, 11, 20), 5, 15);
        dueRegion(Desks.of(FAR, FAR, FAR - 1, FAR - 1), FAR - 1, FAR);
        dueRegion(Desks.of(-FAR, -1, 0, FAR), -FAR, FAR);
    }

    private static void otherPointsBetween() {
        CHECK.sentence("rows (with other points between)");
        dueRegion(Desks.of(0, 5, 7, 9), 0, 5);
        dueRegion(Desks.of(7, 9, 0, 5), 0, 5);
        dueRegion(Desks.of(-100, 100, 7, 9, 0, 5), 0, 5);
        dueRegion(Desks.of(0, 10, 5, 15, 12, 20), 5, 10);
        dueRegion(Desks.of(0, 5, 6, 9, 5, 6, 8, 8), 5, 6);
    }

    private static void coveredByTheGreatestNumber() {
        CHECK.sentence("covered by the GREATEST number of sources that cover any point");
        dueRegion(Desks.of(0, 9, 20, 29, 29, 40), 29, 29);
        dueRegion(Desks.of(0, 9, 20, 29, 30, 40), 0, 9);
        dueRegion(Desks.of(0, 9, 9, 12, 20, 29, 28, 40, 29, 50), 29, 29);
    }

    private static void theRowThatLiesFirst() {
        CHECK.sentence("of several such rows the one that lies first");
        dueRegion(Desks.of(50, 60, -8, -4), -8, -4);
        dueRegion(Desks.of(-8, -4, 50, 60), -8, -4);
        dueRegion(Desks.of(50, 60, 55, 70, -8, -4, -6, -2), -6, -4);
        dueRegion(Desks.of(FAR, FAR, -FAR, -FAR), -FAR, -FAR);
    }

    private static void dueRegion(ClockDesk desk, long low, long high) {
        CHECK.due("region(0)", desk.region(0), low);
        CHECK.due("region(1)", desk.region(1), high);
    }

    private static void noOffset() {
        CHECK.sentence("NO_OFFSET: - 2^62");
        CHECK.due("NO_OFFSET", NO, -(1L << 62));
        CHECK.due("covers(NO_OFFSET)", Desks.of(-FAR, FAR).covers(NO), 0);
    }
}
