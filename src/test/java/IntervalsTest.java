/** Promises 1 to 6: a new object, interval, exchange, drop, sources, covers. */
public final class IntervalsTest {
    private static final long FAR = Desks.FAR;
    private static final long NO = Desks.NO;
    private static final Check CHECK = new Check();

    public static void main(String[] args) {
        aNewObject();
        objectsStandAlone();
        intervalsAreTaken();
        exchanges();
        drops();
        coversBothEnds();
        CHECK.end();
    }

    private static void aNewObject() {
        ClockDesk desk = new ClockDesk();
        CHECK.due("new: sources", desk.sources(), 0);
        CHECK.due("new: greatest", desk.greatest(), 0);
        CHECK.due("new: covers(0)", desk.covers(0), 0);
        CHECK.due("new: region(0)", desk.region(0), NO);
        CHECK.due("new: read", desk.read(), 0);
        CHECK.due("new: offset(0)", desk.offset(0), 0);
        CHECK.due("new: offset(1)", desk.offset(1), 0);
        CHECK.due("new: settles", desk.settles(), 0);
        for (int source = 0; source < 24; source++) {
            CHECK.due("new: chosen " + source, desk.chosen(source), false);
            CHECK.due("new: rank " + source, desk.rank(source, 24), ClockDesk.NONE);
            CHECK.due("new: drop " + source, desk.drop(source), false);
        }
    }

    private static void objectsStandAlone() {
        ClockDesk first = new ClockDesk();
        first.interval(3, 10, 20);
        first.steer();
        first.tick(20000);
        ClockDesk second = new ClockDesk();
        CHECK.due("alone: sources", second.sources(), 0);
        CHECK.due("alone: read", second.read(), 0);
        CHECK.due("alone: goal", second.offset(1), 0);
        second.interval(3, 1, 2);
        CHECK.due("alone: region(0)", first.region(0), 10);
        CHECK.due("alone: read of the first", first.read(), 20010);
    }

    private static void intervalsAreTaken() {
        ClockDesk desk = new ClockDesk();
        for (int source = 0; source < 24; source++) {
            CHECK.due("interval " + source, desk.interval(source, source, 2 * source), true);
            CHECK.due("sources after " + source, desk.sources(), source + 1);
        }
        CHECK.due("interval in place of another", desk.interval(5, 100, 200), true);
        CHECK.due("sources stay", desk.sources(), 24);
        CHECK.due("covers(150)", desk.covers(150), 1);
        CHECK.due("covers(5)", desk.covers(5), 2);
        CHECK.due("interval of one point", desk.interval(5, 7, 7), true);
        CHECK.due("covers(150) no more", desk.covers(150), 0);
        CHECK.due("the widest", desk.interval(0, -FAR, FAR), true);
        CHECK.due("the first point", desk.interval(1, -FAR, -FAR), true);
        CHECK.due("the last point", desk.interval(2, FAR, FAR), true);
        CHECK.due("covers(-2^58)", desk.covers(-FAR), 2);
        CHECK.due("covers(2^58)", desk.covers(FAR), 2);
    }

    private static void exchanges() {
        ClockDesk desk = new ClockDesk();
        CHECK.due("even half", desk.exchange(2, 100, 500, 140), 380);
        CHECK.due("its low", desk.region(0), 360);
        CHECK.due("its high", desk.region(1), 400);
        CHECK.due("odd half", desk.exchange(2, 100, 500, 143), 378);
        CHECK.due("the new low", desk.region(0), 357);
        CHECK.due("the high again", desk.region(1), 400);
        CHECK.due("behind, odd half", desk.exchange(7, 100, 50, 103), -52);
        CHECK.due("sources", desk.sources(), 2);
        CHECK.due("covers low", desk.covers(-53), 1);
        CHECK.due("covers high", desk.covers(-50), 1);
        CHECK.due("below low", desk.covers(-54), 0);
        CHECK.due("above high", desk.covers(-49), 0);
        CHECK.due("no way at all", desk.exchange(7, 9, 9, 9), 0);
        CHECK.due("the own clock is not touched", desk.read(), 0);
    }

    private static void drops() {
        ClockDesk desk = new ClockDesk();
        desk.interval(0, 0, 10);
        desk.interval(23, 5, 15);
        CHECK.due("drop of one without", desk.drop(1), false);
        CHECK.due("sources", desk.sources(), 2);
        CHECK.due("drop 0", desk.drop(0), true);
        CHECK.due("drop 0 again", desk.drop(0), false);
        CHECK.due("sources", desk.sources(), 1);
        CHECK.due("covers(3)", desk.covers(3), 0);
        CHECK.due("covers(7)", desk.covers(7), 1);
        CHECK.due("drop 23", desk.drop(23), true);
        CHECK.due("sources", desk.sources(), 0);
        CHECK.due("region(0)", desk.region(0), NO);
        CHECK.due("again an interval", desk.interval(0, 1, 2), true);
        CHECK.due("sources", desk.sources(), 1);
        CHECK.due("drop of an exchange", desk.exchange(9, 0, 0, 0) == 0 && desk.drop(9), true);
    }

    private static void coversBothEnds() {
        ClockDesk desk = new ClockDesk();
        desk.interval(1, -3, 4);
        desk.interval(2, 4, 6);
        desk.interval(3, 4, 4);
        long[] points = {-4, -3, 0, 3, 4, 5, 6, 7};
        int[] want = {0, 1, 1, 1, 3, 1, 1, 0};
        for (int i = 0; i < points.length; i++) {
            CHECK.due("covers " + points[i], desk.covers(points[i]), want[i]);
        }
    }
}
