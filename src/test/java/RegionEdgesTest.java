/** Each sentence of promises 7 to 10 that names a boundary, at it and one beyond it. */
public final class RegionEdgesTest {
    private static final long FAR = Desks.FAR;
    private static final long NO = Desks.NO;
    private static final Check CHECK = new Check();

    public static void main(String[] args) {
        greatestWithoutIntervals();
        greatestFrom1To24();
        greatestOfThoseThatTouch();
        regionWithoutIntervals();
        regionForOthers();
        regionOfOnePoint();
        regionOf24Pieces();
        hullOfAllSources();
        hullOfAnySource();
        hullOverPointsBetween();
        hullWhenThereIsNone();
        hullOfAnFBelow0();
        hullOfAnFTooLarge();
        hullWithoutIntervals();
        hullForOthers();
        chosenToTheVeryEnds();
        chosenOneShort();
        chosenOfAJoinedRegion();
        chosenWithoutAnInterval();
        chosenOfNoSuchSource();
        CHECK.end();
    }

    private static void dueRegion(ClockDesk desk, int greatest, long low, long high) {
        CHECK.due("greatest()", desk.greatest(), greatest);
        CHECK.due("region(0)", desk.region(0), low);
        CHECK.due("region(1)", desk.region(1), high);
    }

    private static void greatestWithoutIntervals() {
        CHECK.sentence("Promise 7, 0 without intervals");
        CHECK.due("of a new one", new ClockDesk().greatest(), 0);
        ClockDesk desk = Desks.of(0, 0);
        CHECK.due("of one", desk.greatest(), 1);
        desk.drop(0);
        CHECK.due("after drop", desk.greatest(), 0);
    }

    private static void greatestFrom1To24() {
        CHECK.sentence("Promise 7, THE GREATEST number");
        for (int sources = 1; sources <= 24; sources++) {
            CHECK.due("of " + sources, Desks.alike(sources, -2, 2).greatest(), sources);
        }
        ClockDesk desk = Desks.alike(24, -2, 2);
        desk.interval(23, 3, 3);
        CHECK.due("of 24, one apart", desk.greatest(), 23);
    }

    private static void greatestOfThoseThatTouch() {
        CHECK.sentence("Promise 7, a single point in common, or none");
        CHECK.due("touching", Desks.of(0, 5, 5, 9).greatest(), 2);
        CHECK.due("one apart", Desks.of(0, 5, 6, 9).greatest(), 1);
        CHECK.due("touching at 2^58", Desks.of(-FAR, FAR, FAR, FAR).greatest(), 2);
        CHECK.due("one apart at 2^58", Desks.of(-FAR, FAR - 1, FAR, FAR).greatest(), 1);
    }

    private static void regionWithoutIntervals() {
        CHECK.sentence("Promise 8, NO_OFFSET without intervals");
        ClockDesk desk = new ClockDesk();
        dueRegion(desk, 0, NO, NO);
        desk.interval(23, 0, 0);
        dueRegion(desk, 1, 0, 0);
        desk.drop(23);
        dueRegion(desk, 0, NO, NO);
    }

    private static void regionForOthers() {
        CHECK.sentence("Promise 8, NO_OFFSET for others");
        ClockDesk desk = Desks.of(4, 6);
        for (int end : Desks.OTHERS) {
            CHECK.due("region(" + end + ")", desk.region(end), NO);
            CHECK.due("region(" + end + ") without intervals", new ClockDesk().region(end), NO);
        }
        dueRegion(desk, 1, 4, 6);
    }

    private static void regionOfOnePoint() {
        CHECK.sentence("Promise 8, a region of one point");
        dueRegion(Desks.of(7, 7), 1, 7, 7);
        dueRegion(Desks.of(0, 7, 7, 9), 2, 7, 7);
        dueRegion(Desks.of(-FAR, FAR, FAR, FAR), 2, FAR, FAR);
        dueRegion(Desks.of(-FAR, FAR, -FAR, -FAR), 2, -FAR, -FAR);
    }

    private static void regionOf24Pieces() {
        CHECK.sentence("Promise 8, a region of as many pieces as there are sources");
        ClockDesk desk = new ClockDesk();
        for (int source = 0; source < 24; source++) {
            desk.interval(source, 3L * (23 - source), 3L * (23 - source) + 2);
        }
        dueRegion(desk, 1, 0, 71);
        desk.interval(0, 70, 71);
        dueRegion(desk, 1, 0, 68);
    }

    private static void hullOfAllSources() {
        CHECK.sentence("Promise 9, f = 0");
        CHECK.hull(Desks.of(4, 6), 0, 4, 6);
        CHECK.hull(Desks.of(0, 5, 5, 9), 0, 5, 5);
        CHECK.hull(Desks.of(0, 6, 5, 9), 0, 5, 6);
        CHECK.hull(Desks.alike(24, -FAR, FAR), 0, -FAR, FAR);
    }

    private static void hullOfAnySource() {
        CHECK.sentence("Promise 9, f = sources() - 1");
        CHECK.hull(Desks.of(0, 5, 6, 9), 1, 0, 9);
        CHECK.hull(Desks.of(90, 95, 0, 1, 40, 41), 2, 0, 95);
        CHECK.hull(Desks.of(FAR, FAR, -FAR, -FAR), 1, -FAR, FAR);
        ClockDesk full = Desks.alike(24, 1, 2);
        full.interval(23, 8, 9);
        CHECK.hull(full, 23, 1, 9);
        CHECK.hull(full, 22, 1, 2);
    }

    private static void hullOverPointsBetween() {
        CHECK.sentence("Promise 9, of all points that are covered by at least so many");
        ClockDesk desk = Desks.of(0, 4, 2, 6, 90, 94, 92, 96);
        CHECK.hull(desk, 1, NO, NO);
        CHECK.hull(desk, 2, 2, 94);
        CHECK.hull(desk, 3, 0, 96);
        desk.interval(4, 3, 3);
        CHECK.hull(desk, 1, NO, NO);
        CHECK.hull(desk, 2, 3, 3);
        CHECK.hull(desk, 3, 2, 94);
    }

    private static void hullWhenThereIsNone() {
        CHECK.sentence("Promise 9, NO_OFFSET when there is none");
        CHECK.hull(Desks.of(0, 5, 6, 9), 0, NO, NO);
        CHECK.hull(Desks.of(0, 5, 5, 9), 0, 5, 5);
        ClockDesk full = Desks.alike(24, 1, 2);
        full.interval(23, 3, 3);
        CHECK.hull(full, 0, NO, NO);
        CHECK.hull(full, 1, 1, 2);
    }

    private static void hullOfAnFBelow0() {
        CHECK.sentence("Promise 9, f is not 0 .. sources() - 1, below it");
        ClockDesk desk = Desks.of(0, 10, 5, 15);
        int[] below = {-1, -2, -23, Integer.MIN_VALUE, Integer.MIN_VALUE + 1};
        for (int f : below) {
            CHECK.hull(desk, f, NO, NO);
        }
        CHECK.hull(desk, 0, 5, 10);
    }

    private static void hullOfAnFTooLarge() {
        CHECK.sentence("Promise 9, f is not 0 .. sources() - 1, above it");
        ClockDesk desk = Desks.of(0, 10, 5, 15);
        int[] above = {2, 3, 23, 24, Integer.MAX_VALUE};
        for (int f : above) {
            CHECK.hull(desk, f, NO, NO);
        }
        CHECK.hull(desk, 1, 0, 15);
        desk.drop(0);
        CHECK.hull(desk, 1, NO, NO);
        ClockDesk full = Desks.alike(24, 1, 2);
        CHECK.hull(full, 23, 1, 2);
        CHECK.hull(full, 24, NO, NO);
    }

    private static void hullWithoutIntervals() {
        CHECK.sentence("Promise 9, f is not 0 .. sources() - 1, there being none");
        int[] any = {-1, 0, 1, 23, 24};
        for (int f : any) {
            CHECK.hull(new ClockDesk(), f, NO, NO);
        }
        CHECK.hull(Desks.of(3, 4), 0, 3, 4);
    }

    private static void hullForOthers() {
        CHECK.sentence("Promise 9, NO_OFFSET for others");
        ClockDesk desk = Desks.of(0, 10, 5, 15);
        for (int end : Desks.OTHERS) {
            CHECK.due("hull(0, " + end + ")", desk.hull(0, end), NO);
            CHECK.due("hull(1, " + end + ")", desk.hull(1, end), NO);
        }
        CHECK.hull(desk, 0, 5, 10);
    }

    private static void dueChosen(ClockDesk desk, boolean... wanted) {
        for (int source = 0; source < wanted.length; source++) {
            CHECK.due("chosen(" + source + ")", desk.chosen(source), wanted[source]);
        }
    }

    private static void chosenToTheVeryEnds() {
        CHECK.sentence("Promise 10, whether a source covers all of the region");
        dueChosen(Desks.of(5, 10, 0, 10, 5, 20, -9, 99), true, true, true, true);
        dueChosen(Desks.of(-FAR, FAR), true);
        dueChosen(Desks.of(-FAR, FAR, FAR, FAR), true, true);
    }

    private static void chosenOneShort() {
        CHECK.sentence("Promise 10, all of the region but one point");
        dueChosen(Desks.of(0, 9, 0, 4, 5, 9), true, false, false);
        dueChosen(Desks.of(0, 9, 0, 8, 9, 9), true, false, false);
        dueChosen(Desks.of(0, 9, 1, 9, 0, 0), true, false, false);
        dueChosen(Desks.of(0, 9, 0, 9, 1, 9), true, true, true);
    }

    private static void chosenOfAJoinedRegion() {
        CHECK.sentence("Promise 10, a region that no source covers whole");
        dueChosen(Desks.of(0, 5, 6, 9), false, false);
        dueChosen(Desks.of(0, 5, 7, 9), true, false);
        dueChosen(Desks.of(0, 10, 5, 15, 11, 20), false, true, false);
        dueChosen(Desks.of(0, 10, 5, 15, 12, 20), true, true, false);
    }

    private static void chosenWithoutAnInterval() {
        CHECK.sentence("Promise 10, false when it has no interval");
        ClockDesk desk = Desks.of(-1, 1, -1, 1);
        CHECK.due("chosen(2)", desk.chosen(2), false);
        CHECK.due("chosen(1)", desk.chosen(1), true);
        desk.drop(1);
        CHECK.due("chosen(1) after drop", desk.chosen(1), false);
        CHECK.due("chosen(0)", desk.chosen(0), true);
        desk.drop(0);
        CHECK.due("chosen(0), none having one", desk.chosen(0), false);
        CHECK.due("chosen(0) of a new one", new ClockDesk().chosen(0), false);
    }

    private static void chosenOfNoSuchSource() {
        CHECK.sentence("Promise 10, false for no such source");
        ClockDesk desk = Desks.alike(24, 0, 0);
        for (int source : Desks.NO_SOURCES) {
            CHECK.due("chosen(" + source + ")", desk.chosen(source), false);
        }
        CHECK.due("chosen(0)", desk.chosen(0), true);
        CHECK.due("chosen(23)", desk.chosen(23), true);
    }
}
