/** Promises 1 to 6: a new object, interval, exchange, drop, sources, covers. */
public final class IntervalsTest {
    private static final long FAR = 1L << 58;
    private static final long LATEST = 1L << 57;
    private static final long NO = ClockDesk.NO_OFFSET;
    private static final Check CHECK = new Check();

    public static void main(String[] args) {
        aNewObject();
        objectsStandAlone();
        intervalsAreTaken();
        wrongIntervalsChangeNothing();
        exchanges();
        exchangesAtTheEdges();
        wrongExchangesChangeNothing();
        drops();
        coversBothEnds();
        coversAnyPoint();
        CHECK.end();
    }

    private static void aNewObject() {
        ClockDesk desk = new ClockDesk();
        CHECK.due("new: sources", desk.sources(), 0);
        CHECK.due("new: greatest", desk.greatest(), 0);
        CHECK.due("new: covers(0)", desk.covers(0), 0);
        CHECK.due("new: region(0)", desk.region(0), NO);
        CHECK.due("new: read", desk.read(), 0);
        CHECK.due("new: offset(0)", desk.offset(0), 0);
        CHECK.due("new: offset(1)", desk.offset(1), 0);
        CHECK.due("new: settles", desk.settles(), 0);
        for (int source = 0; source < 24; source++) {
            CHECK.due("new: chosen " + source, desk.chosen(source), false);
            CHECK.due("new: rank " + source, desk.rank(source, 24), ClockDesk.NONE);
            CHECK.due("new: drop " + source, desk.drop(source), false);
        }
    }

    private static void objectsStandAlone() {
        ClockDesk first = new ClockDesk();
        first.interval(3, 10, 20);
        first.steer();
        first.tick(20000);
        ClockDesk second = new ClockDesk();
        CHECK.due("alone: sources", second.sources(), 0);
        CHECK.due("alone: read", second.read(), 0);
        CHECK.due("alone: goal", second.offset(1), 0);
        second.interval(3, 1, 2);
        CHECK.due("alone: region(0)", first.region(0), 10);
        CHECK.due("alone: read of the first", first.read(), 20010);
    }

    private static void intervalsAreTaken() {
        ClockDesk desk = new ClockDesk();
        for (int source = 0; source < 24; source++) {
            CHECK.due("interval " + source, desk.interval(source, source, 2 * source), true);
            CHECK.due("sources after " + source, desk.sources(), source + 1);
        }
        CHECK.due("interval in place of another", desk.interval(5, 100, 200), true);
        CHECK.due("sources stay", desk.sources(), 24);
        CHECK.due("covers(150)", desk.covers(150), 1);
        CHECK.due("covers(5)", desk.covers(5), 2);
        CHECK.due("interval of one point", desk.interval(5, 7, 7), true);
        CHECK.due("covers(150) no more", desk.covers(150), 0);
        CHECK.due("the widest", desk.interval(0, -FAR, FAR), true);
        CHECK.due("the first point", desk.interval(1, -FAR, -FAR), true);
        CHECK.due("the last point", desk.interval(2, FAR, FAR), true);
        CHECK.due("covers(-2^58)", desk.covers(-FAR), 2);
        CHECK.due("covers(2^58)", desk.covers(FAR), 2);
    }

    private static void wrongIntervalsChangeNothing() {
        ClockDesk desk = new ClockDesk();
        desk.interval(4, -5, 5);
        int[] noSources = {-1, 24, 25, 28, 32, 36, -28, Integer.MIN_VALUE, Integer.MAX_VALUE};
        for (int source : noSources) {
            CHECK.due("interval of " + source, desk.interval(source, 0, 1), false);
        }
        CHECK.due("low above high", desk.interval(4, 1, 0), false);
        CHECK.due("low too low", desk.interval(4, -FAR - 1, 0), false);
        CHECK.due("high too high", desk.interval(4, 0, FAR + 1), false);
        CHECK.due("both too high", desk.interval(4, FAR + 1, FAR + 1), false);
        CHECK.due("both too low", desk.interval(4, -FAR - 1, -FAR - 1), false);
        CHECK.due("all there is", desk.interval(4, Long.MIN_VALUE, Long.MAX_VALUE), false);
        CHECK.due("turned round", desk.interval(4, Long.MAX_VALUE, Long.MIN_VALUE), false);
        CHECK.due("wrong for a new source", desk.interval(6, 1, 0), false);
        CHECK.due("sources", desk.sources(), 1);
        CHECK.due("low stays", desk.region(0), -5);
        CHECK.due("high stays", desk.region(1), 5);
    }

    private static void exchanges() {
        ClockDesk desk = new ClockDesk();
        CHECK.due("even half", desk.exchange(2, 100, 500, 140), 380);
        CHECK.due("its low", desk.region(0), 360);
        CHECK.due("its high", desk.region(1), 400);
        CHECK.due("odd half", desk.exchange(2, 100, 500, 143), 378);
        CHECK.due("the new low", desk.region(0), 357);
        CHECK.due("the high again", desk.region(1), 400);
        CHECK.due("behind, odd half", desk.exchange(7, 100, 50, 103), -52);
        CHECK.due("sources", desk.sources(), 2);
        CHECK.due("covers low", desk.covers(-53), 1);
        CHECK.due("covers high", desk.covers(-50), 1);
        CHECK.due("below low", desk.covers(-54), 0);
        CHECK.due("above high", desk.covers(-49), 0);
        CHECK.due("no way at all", desk.exchange(7, 9, 9, 9), 0);
        CHECK.due("the own clock is not touched", desk.read(), 0);
    }

    private static void exchangesAtTheEdges() {
        ClockDesk desk = new ClockDesk();
        CHECK.due("all 0", desk.exchange(0, 0, 0, 0), 0);
        CHECK.due("the longest way", desk.exchange(23, 0, 0, LATEST), -LATEST / 2);
        CHECK.due("its low", desk.covers(-LATEST), 1);
        CHECK.due("below its low", desk.covers(-LATEST - 1), 0);
        CHECK.due("the most ahead", desk.exchange(23, 0, LATEST, 0), LATEST);
        CHECK.due("its point", desk.covers(LATEST), 1);
        CHECK.due("the most behind", desk.exchange(23, LATEST, 0, LATEST), -LATEST);
        CHECK.due("all last", desk.exchange(23, LATEST, LATEST, LATEST), 0);
        CHECK.due("long way to the last", desk.exchange(23, 0, LATEST, LATEST), LATEST / 2);
        CHECK.due("its high", desk.covers(LATEST), 1);
        CHECK.due("above its high", desk.covers(LATEST + 1), 0);
    }

    private static void wrongExchangesChangeNothing() {
        ClockDesk desk = new ClockDesk();
        desk.interval(0, 3, 4);
        int[] noSources = {-1, 24, 32, Integer.MIN_VALUE, Integer.MAX_VALUE};
        for (int source : noSources) {
            CHECK.due("exchange of " + source, desk.exchange(source, 1, 1, 1), NO);
        }
        CHECK.due("sent below 0", desk.exchange(0, -1, 5, 5), NO);
        CHECK.due("sent behind came", desk.exchange(0, 6, 5, 5), NO);
        CHECK.due("came too late", desk.exchange(0, 0, 5, LATEST + 1), NO);
        CHECK.due("both too late", desk.exchange(0, LATEST + 1, 5, LATEST + 1), NO);
        CHECK.due("both below 0", desk.exchange(0, -2, 5, -1), NO);
        CHECK.due("told below 0", desk.exchange(0, 0, -1, 5), NO);
        CHECK.due("told too late", desk.exchange(0, 0, LATEST + 1, 5), NO);
        CHECK.due("extremes", desk.exchange(0, Long.MIN_VALUE, Long.MAX_VALUE, Long.MAX_VALUE), NO);
        CHECK.due("told extreme", desk.exchange(0, 0, Long.MIN_VALUE, 5), NO);
        CHECK.due("wrong for a new source", desk.exchange(1, 0, -1, 5), NO);
        CHECK.due("sources", desk.sources(), 1);
        CHECK.due("low stays", desk.region(0), 3);
        CHECK.due("high stays", desk.region(1), 4);
    }

    private static void drops() {
        ClockDesk desk = new ClockDesk();
        desk.interval(0, 0, 10);
        desk.interval(23, 5, 15);
        int[] noSources = {-1, 24, 32, 55, -9, Integer.MIN_VALUE, Integer.MAX_VALUE};
        for (int source : noSources) {
            CHECK.due("drop of " + source, desk.drop(source), false);
        }
        CHECK.due("drop of one without", desk.drop(1), false);
        CHECK.due("sources", desk.sources(), 2);
        CHECK.due("drop 0", desk.drop(0), true);
        CHECK.due("drop 0 again", desk.drop(0), false);
        CHECK.due("sources", desk.sources(), 1);
        CHECK.due("covers(3)", desk.covers(3), 0);
        CHECK.due("covers(7)", desk.covers(7), 1);
        CHECK.due("drop 23", desk.drop(23), true);
        CHECK.due("sources", desk.sources(), 0);
        CHECK.due("region(0)", desk.region(0), NO);
        CHECK.due("again an interval", desk.interval(0, 1, 2), true);
        CHECK.due("sources", desk.sources(), 1);
        CHECK.due("drop of an exchange", desk.exchange(9, 0, 0, 0) == 0 && desk.drop(9), true);
    }

    private static void coversBothEnds() {
        ClockDesk desk = new ClockDesk();
        desk.interval(1, -3, 4);
        desk.interval(2, 4, 6);
        desk.interval(3, 4, 4);
        long[] points = {-4, -3, 0, 3, 4, 5, 6, 7};
        int[] want = {0, 1, 1, 1, 3, 1, 1, 0};
        for (int i = 0; i < points.length; i++) {
            CHECK.due("covers " + points[i], desk.covers(points[i]), want[i]);
        }
    }

    private static void coversAnyPoint() {
        ClockDesk desk = new ClockDesk();
        desk.interval(1, -FAR, FAR);
        CHECK.due("covers the least long", desk.covers(Long.MIN_VALUE), 0);
        CHECK.due("covers the greatest long", desk.covers(Long.MAX_VALUE), 0);
        CHECK.due("covers below", desk.covers(-FAR - 1), 0);
        CHECK.due("covers above", desk.covers(FAR + 1), 0);
        CHECK.due("covers NO_OFFSET", desk.covers(NO), 0);
    }
}
