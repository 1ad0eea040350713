/** Each sentence of promises 1 to 6 that names a boundary, at it and one beyond it. */
public final class IntervalsEdgesTest {
    private static final long FAR = Desks.FAR;
    private static final long LATEST = Desks.LATEST;
    private static final long NO = Desks.NO;
    private static final Check CHECK = new Check();

    public static void main(String[] args) {
        newWithoutIntervals();
        newShows0At0();
        newOffsetAndGoalAre0();
        intervalInPlaceOfAnother();
        intervalOfNoSuchSource();
        intervalWithALowTooLow();
        intervalWithALowAboveItsHigh();
        intervalWithAHighTooHigh();
        intervalWithEndsThatWrapRound();
        exchangeGivesAnInterval();
        exchangeAtTheFarthestEnds();
        exchangeInPlaceOfAnother();
        exchangeByHalfRoundedDown();
        exchangeOfNoSuchSource();
        exchangeSentBelow0();
        exchangeSentBehindCame();
        exchangeCameTooLate();
        exchangeToldBelow0();
        exchangeToldTooLate();
        exchangeWithTimesThatWrapRound();
        dropTakesAnInterval();
        dropOfNoSuchSource();
        dropOfOneThatHadNone();
        sourcesFrom0To24();
        coversFrom0To24();
        coversAnyPoint();
        CHECK.end();
    }

    private static void newWithoutIntervals() {
        CHECK.sentence("Promise 1, No intervals");
        ClockDesk desk = new ClockDesk();
        CHECK.due("sources()", desk.sources(), 0);
        CHECK.due("covers(0)", desk.covers(0), 0);
        for (int source = 0; source < 24; source++) {
            CHECK.due("drop of " + source, desk.drop(source), false);
        }
    }

    private static void newShows0At0() {
        CHECK.sentence("Promise 1, the clock shows 0 at 0");
        ClockDesk desk = new ClockDesk();
        CHECK.due("read()", desk.read(), 0);
        CHECK.due("tick(-1)", desk.tick(-1), false);
        CHECK.due("tick(0)", desk.tick(0), true);
        CHECK.due("read() again", desk.read(), 0);
    }

    private static void newOffsetAndGoalAre0() {
        CHECK.sentence("Promise 1, its offset and its goal are 0");
        ClockDesk desk = new ClockDesk();
        CHECK.due("offset(0)", desk.offset(0), 0);
        CHECK.due("offset(1)", desk.offset(1), 0);
        CHECK.due("settles()", desk.settles(), 0);
        desk.tick(1_000_000);
        CHECK.due("offset(0) after a tick", desk.offset(0), 0);
    }

    private static void intervalInPlaceOfAnother() {
        CHECK.sentence("Promise 2, in place of another one");
        ClockDesk desk = Desks.of(0, 9, 100, 200);
        CHECK.due("interval of 0 anew", desk.interval(0, 50, 60), true);
        dueEnds(desk, 0, 50, 60);
        CHECK.due("the same again", desk.interval(0, 50, 60), true);
        dueEnds(desk, 0, 50, 60);
        dueEnds(desk, 1, 100, 200);
        CHECK.due("sources()", desk.sources(), 2);
    }

    private static void intervalOfNoSuchSource() {
        CHECK.sentence("Promise 2, False when there is no such source");
        ClockDesk desk = Desks.of(-5, 5);
        String before = Desks.state(desk);
        for (int source : Desks.NO_SOURCES) {
            CHECK.due("interval of " + source, desk.interval(source, 0, 1), false);
        }
        CHECK.same("the state", Desks.state(desk), before);
        CHECK.due("interval of 0", desk.interval(0, 0, 1), true);
        CHECK.due("interval of 23", desk.interval(23, 0, 1), true);
    }

    private static void intervalWithALowTooLow() {
        CHECK.sentence("Promise 2, - 2^58 <= low");
        dueRefused(-FAR - 1, 0);
        dueRefused(-FAR - 1, -FAR);
        dueRefused(-FAR - 1, -FAR - 1);
        dueTaken(-FAR, 0);
        dueTaken(-FAR, -FAR);
    }

    private static void intervalWithALowAboveItsHigh() {
        CHECK.sentence("Promise 2, low <= high");
        dueRefused(1, 0);
        dueRefused(0, -1);
        dueRefused(FAR, -FAR);
        dueRefused(FAR, FAR - 1);
        dueRefused(-FAR + 1, -FAR);
        dueTaken(0, 0);
        dueTaken(-1, 0);
        dueTaken(FAR, FAR);
    }

    private static void intervalWithAHighTooHigh() {
        CHECK.sentence("Promise 2, high <= 2^58");
        dueRefused(0, FAR + 1);
        dueRefused(FAR, FAR + 1);
        dueRefused(FAR + 1, FAR + 1);
        dueTaken(0, FAR);
        dueTaken(FAR, FAR);
        dueTaken(-FAR, FAR);
    }

    private static void intervalWithEndsThatWrapRound() {
        CHECK.sentence("Promise 2, the outermost longs");
        dueRefused(Long.MIN_VALUE, Long.MAX_VALUE);
        dueRefused(Long.MAX_VALUE, Long.MIN_VALUE);
        dueRefused(Long.MIN_VALUE, Long.MIN_VALUE);
        dueRefused(Long.MAX_VALUE, Long.MAX_VALUE);
        dueRefused(NO, 0);
        dueRefused(0, Long.MAX_VALUE);
    }

    private static void dueRefused(long low, long high) {
        ClockDesk desk = Desks.of(-5, 5);
        String before = Desks.state(desk);
        CHECK.due("interval(0, " + low + ", " + high + ")", desk.interval(0, low, high), false);
        CHECK.due("interval(7, " + low + ", " + high + ")", desk.interval(7, low, high), false);
        CHECK.same("the state", Desks.state(desk), before);
        dueEnds(desk, 0, -5, 5);
    }

    private static void dueTaken(long low, long high) {
        ClockDesk desk = new ClockDesk();
        CHECK.due("interval(7, " + low + ", " + high + ")", desk.interval(7, low, high), true);
        dueEnds(desk, 7, low, high);
    }

    /** No interval is told by itself, but the cover tells it: it grows at low and falls behind high. */
    private static void dueEnds(ClockDesk desk, int source, long low, long high) {
        CHECK.due("source " + source + " begins at " + low, desk.covers(low) - desk.covers(low - 1), 1);
        CHECK.due("source " + source + " ends at " + high, desk.covers(high) - desk.covers(high + 1), 1);
    }

    private static void exchangeGivesAnInterval() {
        CHECK.sentence("Promise 3, its interval is told - came .. told - sent");
        ClockDesk desk = new ClockDesk();
        desk.exchange(5, 100, 500, 140);
        dueEnds(desk, 5, 360, 400);
        ClockDesk atOnce = new ClockDesk();
        atOnce.exchange(5, 100, 500, 100);
        dueEnds(atOnce, 5, 400, 400);
        ClockDesk behind = new ClockDesk();
        behind.exchange(5, 100, 0, 101);
        dueEnds(behind, 5, -101, -100);
    }

    private static void exchangeAtTheFarthestEnds() {
        CHECK.sentence("Promise 3, the interval of the outermost times");
        ClockDesk least = new ClockDesk();
        CHECK.due("exchange(5, 0, 0, 2^57)", least.exchange(5, 0, 0, LATEST), -LATEST / 2);
        dueEnds(least, 5, -LATEST, 0);
        ClockDesk most = new ClockDesk();
        CHECK.due("exchange(5, 0, 2^57, 0)", most.exchange(5, 0, LATEST, 0), LATEST);
        dueEnds(most, 5, LATEST, LATEST);
        ClockDesk last = new ClockDesk();
        CHECK.due("exchange(5, 0, 2^57, 2^57)", last.exchange(5, 0, LATEST, LATEST), LATEST / 2);
        dueEnds(last, 5, 0, LATEST);
    }

    private static void exchangeInPlaceOfAnother() {
        CHECK.sentence("Promise 3, in place of another interval");
        ClockDesk desk = Desks.of(-900, 900);
        CHECK.due("exchange(0, 3, 13, 5)", desk.exchange(0, 3, 13, 5), 9);
        dueEnds(desk, 0, 8, 10);
        CHECK.due("sources()", desk.sources(), 1);
        CHECK.due("covers(7)", desk.covers(7), 0);
    }

    private static void exchangeByHalfRoundedDown() {
        CHECK.sentence("Promise 3, told + (came - sent) / 2, rounded down, less came");
        ClockDesk desk = new ClockDesk();
        CHECK.due("exchange(0, 10, 50, 10)", desk.exchange(0, 10, 50, 10), 40);
        CHECK.due("exchange(0, 10, 50, 11)", desk.exchange(0, 10, 50, 11), 39);
        CHECK.due("exchange(0, 10, 50, 12)", desk.exchange(0, 10, 50, 12), 39);
        CHECK.due("exchange(0, 10, 50, 13)", desk.exchange(0, 10, 50, 13), 38);
        CHECK.due("exchange(0, 10, 0, 11)", desk.exchange(0, 10, 0, 11), -11);
        CHECK.due("exchange(0, 10, 0, 12)", desk.exchange(0, 10, 0, 12), -11);
        CHECK.due("exchange(0, 10, 0, 13)", desk.exchange(0, 10, 0, 13), -12);
        CHECK.due("exchange(0, 1, 0, 2^57)", desk.exchange(0, 1, 0, LATEST), -LATEST / 2 - 1);
    }

    private static void exchangeOfNoSuchSource() {
        CHECK.sentence("Promise 3, NO_OFFSET, changing nothing, when there is no such source");
        ClockDesk desk = Desks.of(-5, 5);
        String before = Desks.state(desk);
        for (int source : Desks.NO_SOURCES) {
            CHECK.due("exchange of " + source, desk.exchange(source, 1, 1, 1), NO);
        }
        CHECK.same("the state", Desks.state(desk), before);
        CHECK.due("exchange of 0", desk.exchange(0, 1, 1, 1), 0);
        CHECK.due("exchange of 23", desk.exchange(23, 1, 1, 1), 0);
    }

    private static void exchangeSentBelow0() {
        CHECK.sentence("Promise 3, 0 <= sent");
        dueRefusedExchange(-1, 3, 4);
        dueRefusedExchange(-1, 0, 0);
        dueRefusedExchange(-1, 3, -1);
        CHECK.due("sent at 0", new ClockDesk().exchange(0, 0, 3, 4), 1);
    }

    private static void exchangeSentBehindCame() {
        CHECK.sentence("Promise 3, sent <= came");
        dueRefusedExchange(5, 3, 4);
        dueRefusedExchange(1, 0, 0);
        dueRefusedExchange(LATEST, 0, LATEST - 1);
        CHECK.due("sent and came at 4", new ClockDesk().exchange(0, 4, 3, 4), -1);
        CHECK.due("sent and came at 2^57", new ClockDesk().exchange(0, LATEST, 0, LATEST), -LATEST);
    }

    private static void exchangeCameTooLate() {
        CHECK.sentence("Promise 3, came <= 2^57");
        dueRefusedExchange(0, 3, LATEST + 1);
        dueRefusedExchange(LATEST, 3, LATEST + 1);
        dueRefusedExchange(LATEST + 1, 3, LATEST + 1);
        CHECK.due("came at 2^57", new ClockDesk().exchange(0, LATEST - 2, 3, LATEST), 4 - LATEST);
    }

    private static void exchangeToldBelow0() {
        CHECK.sentence("Promise 3, told not 0 .. 2^57, below it");
        dueRefusedExchange(0, -1, 4);
        dueRefusedExchange(0, -1, 0);
        CHECK.due("told 0", new ClockDesk().exchange(0, 0, 0, 4), -2);
    }

    private static void exchangeToldTooLate() {
        CHECK.sentence("Promise 3, told not 0 .. 2^57, above it");
        dueRefusedExchange(0, LATEST + 1, 4);
        dueRefusedExchange(LATEST, LATEST + 1, LATEST);
        CHECK.due("told 2^57", new ClockDesk().exchange(0, 0, LATEST, 4), LATEST - 2);
    }

    private static void exchangeWithTimesThatWrapRound() {
        CHECK.sentence("Promise 3, the outermost longs");
        dueRefusedExchange(Long.MIN_VALUE, 0, 0);
        dueRefusedExchange(Long.MIN_VALUE, 0, Long.MAX_VALUE);
        dueRefusedExchange(Long.MAX_VALUE, 0, Long.MAX_VALUE);
        dueRefusedExchange(0, 0, Long.MAX_VALUE);
        dueRefusedExchange(0, 0, Long.MIN_VALUE);
        dueRefusedExchange(0, Long.MAX_VALUE, 0);
        dueRefusedExchange(0, Long.MIN_VALUE, 0);
    }

    private static void dueRefusedExchange(long sent, long told, long came) {
        ClockDesk desk = Desks.of(-5, 5);
        String before = Desks.state(desk);
        String times = ", " + sent + ", " + told + ", " + came + ")";
        CHECK.due("exchange(0" + times, desk.exchange(0, sent, told, came), NO);
        CHECK.due("exchange(7" + times, desk.exchange(7, sent, told, came), NO);
        CHECK.same("the state", Desks.state(desk), before);
        dueEnds(desk, 0, -5, 5);
    }

    private static void dropTakesAnInterval() {
        CHECK.sentence("Promise 4, a source has no interval any more");
        ClockDesk desk = Desks.alike(24, 3, 4);
        for (int source = 23; source >= 0; source--) {
            CHECK.due("drop of " + source, desk.drop(source), true);
            CHECK.due("sources()", desk.sources(), source);
            CHECK.due("chosen " + source, desk.chosen(source), false);
        }
        CHECK.due("region(0)", desk.region(0), NO);
        CHECK.due("interval after drop", desk.interval(9, 1, 1), true);
        CHECK.due("drop once more", desk.drop(9), true);
    }

    private static void dropOfNoSuchSource() {
        CHECK.sentence("Promise 4, False when there is none such");
        ClockDesk desk = Desks.alike(24, 3, 4);
        String before = Desks.state(desk);
        for (int source : Desks.NO_SOURCES) {
            CHECK.due("drop of " + source, desk.drop(source), false);
        }
        CHECK.same("the state", Desks.state(desk), before);
    }

    private static void dropOfOneThatHadNone() {
        CHECK.sentence("Promise 4, or it had none");
        ClockDesk desk = Desks.of(1, 2, 3, 4);
        CHECK.due("drop of one that never had one", desk.drop(2), false);
        CHECK.due("drop", desk.drop(1), true);
        String before = Desks.state(desk);
        CHECK.due("drop again", desk.drop(1), false);
        desk.interval(3, 1, 0);
        CHECK.due("drop after a refused interval", desk.drop(3), false);
        desk.exchange(4, 1, 0, 0);
        CHECK.due("drop after a refused exchange", desk.drop(4), false);
        CHECK.same("the state", Desks.state(desk), before);
        desk.exchange(4, 0, 0, 0);
        CHECK.due("drop after an exchange", desk.drop(4), true);
    }

    private static void sourcesFrom0To24() {
        CHECK.sentence("Promise 5, how many sources have an interval");
        CHECK.due("of none", new ClockDesk().sources(), 0);
        CHECK.due("of one", Desks.alike(1, 0, 0).sources(), 1);
        CHECK.due("of 23", Desks.alike(23, 0, 0).sources(), 23);
        ClockDesk full = Desks.alike(24, 0, 0);
        CHECK.due("of 24", full.sources(), 24);
        full.interval(23, 1, 1);
        CHECK.due("of 24, one anew", full.sources(), 24);
        full.interval(24, 1, 1);
        CHECK.due("of 24, one more refused", full.sources(), 24);
    }

    private static void coversFrom0To24() {
        CHECK.sentence("Promise 6, how many sources cover a point");
        CHECK.due("of none", new ClockDesk().covers(0), 0);
        ClockDesk full = Desks.alike(24, -1, 1);
        CHECK.due("of 24, below", full.covers(-2), 0);
        CHECK.due("of 24, at low", full.covers(-1), 24);
        CHECK.due("of 24, at high", full.covers(1), 24);
        CHECK.due("of 24, above", full.covers(2), 0);
        full.drop(11);
        CHECK.due("of 23", full.covers(0), 23);
    }

    private static void coversAnyPoint() {
        CHECK.sentence("Promise 6, points that are no offsets");
        ClockDesk desk = Desks.alike(24, -FAR, FAR);
        long[] points = {-FAR - 1, FAR + 1, NO, -NO, Long.MIN_VALUE, Long.MAX_VALUE};
        for (long point : points) {
            CHECK.due("covers(" + point + ")", desk.covers(point), 0);
        }
    }
}
