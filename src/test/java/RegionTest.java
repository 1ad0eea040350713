/** Promises 7 to 10: greatest, region, hull, chosen. */
public final class RegionTest {
    private static final long FAR = Desks.FAR;
    private static final long NO = Desks.NO;
    private static final Check CHECK = new Check();

    public static void main(String[] args) {
        oneInCommon();
        touchingAtAPoint();
        rowsThatGoOnBesideEachOther();
        rowsWithAPointBetween();
        theRowThatLiesFirst();
        aRowOfManyPieces();
        theWidest();
        hullsOfAllKinds();
        choosing();
        CHECK.end();
    }

    private static void dueRegion(String what, ClockDesk desk, int greatest, long low, long high) {
        CHECK.due(what + ": greatest", desk.greatest(), greatest);
        CHECK.due(what + ": region(0)", desk.region(0), low);
        CHECK.due(what + ": region(1)", desk.region(1), high);
    }

    private static void oneInCommon() {
        dueRegion("alone", Desks.of(-7, 9), 1, -7, 9);
        dueRegion("within", Desks.of(0, 10, 3, 5), 2, 3, 5);
        dueRegion("across", Desks.of(0, 10, 5, 15, 7, 30), 3, 7, 10);
        dueRegion("the same", Desks.of(2, 4, 2, 4, 2, 4), 3, 2, 4);
    }

    private static void touchingAtAPoint() {
        dueRegion("touching", Desks.of(0, 5, 5, 9), 2, 5, 5);
        dueRegion("turned round", Desks.of(5, 9, 0, 5), 2, 5, 5);
    }

    private static void rowsThatGoOnBesideEachOther() {
        dueRegion("beside", Desks.of(0, 5, 6, 9), 1, 0, 9);
        dueRegion("beside, below another", Desks.of(-100, 100, 6, 9, 0, 5), 2, 0, 9);
        dueRegion("one goes, one comes", Desks.of(0, 10, 5, 15, 11, 20), 2, 5, 15);
    }

    private static void rowsWithAPointBetween() {
        dueRegion("a point between", Desks.of(0, 5, 7, 9), 1, 0, 5);
        dueRegion("a lesser point between", Desks.of(-9, 9, 0, 2, 4, 6), 2, 0, 2);
    }

    private static void theRowThatLiesFirst() {
        dueRegion("first by place, not by number", Desks.of(50, 60, 50, 60, -8, -4, -6, -2), 2, -6, -4);
        dueRegion("most, not first", Desks.of(-8, -4, -6, -2, 50, 60, 50, 60, 55, 70), 3, 55, 60);
    }

    private static void aRowOfManyPieces() {
        ClockDesk desk = new ClockDesk();
        for (int source = 0; source < 24; source++) {
            desk.interval(source, 3L * (23 - source), 3L * (23 - source) + 2);
        }
        dueRegion("24 pieces", desk, 1, 0, 71);
        desk.drop(12);
        dueRegion("a hole in them", desk, 1, 0, 32);
    }

    private static void theWidest() {
        dueRegion("the widest", Desks.of(-FAR, FAR), 1, -FAR, FAR);
        dueRegion("the last point", Desks.of(-FAR, FAR, FAR, FAR), 2, FAR, FAR);
        dueRegion("the first point", Desks.of(-FAR, FAR, -FAR, -FAR), 2, -FAR, -FAR);
        dueRegion("both ends", Desks.of(FAR, FAR, -FAR, -FAR), 1, -FAR, -FAR);
    }

    private static void hullsOfAllKinds() {
        ClockDesk desk = Desks.of(0, 10, 5, 15, 11, 20, 100, 200);
        CHECK.hull(desk, 0, NO, NO);
        CHECK.hull(desk, 1, NO, NO);
        CHECK.hull(desk, 2, 5, 15);
        CHECK.hull(desk, 3, 0, 200);
        ClockDesk apart = Desks.of(0, 4, 2, 6, 90, 94, 92, 96);
        CHECK.hull(apart, 2, 2, 94);
        CHECK.hull(apart, 3, 0, 96);
        ClockDesk common = Desks.of(-20, 20, -10, 30, -15, 5);
        CHECK.hull(common, 0, -10, 5);
        CHECK.hull(common, 1, -15, 20);
        CHECK.hull(common, 2, -20, 30);
        CHECK.hull(Desks.of(-FAR, FAR), 0, -FAR, FAR);
        CHECK.hull(Desks.of(FAR, FAR, -FAR, -FAR), 1, -FAR, FAR);
    }

    private static void choosing() {
        ClockDesk desk = Desks.of(0, 10, 5, 15, 11, 20);
        boolean[] first = {false, true, false, false};
        for (int source = 0; source < first.length; source++) {
            CHECK.due("chosen " + source, desk.chosen(source), first[source]);
        }
        ClockDesk exact = Desks.of(0, 10, 5, 15, 5, 10, 6, 7, 30, 40);
        boolean[] second = {true, true, true, true, false};
        for (int source = 0; source < second.length; source++) {
            CHECK.due("chosen of four in common " + source, exact.chosen(source), second[source]);
        }
        exact.drop(0);
        CHECK.due("chosen after drop", exact.chosen(0), false);
        ClockDesk joined = Desks.of(0, 4, 0, 2, 3, 4);
        CHECK.due("all of a joined region", joined.chosen(0), true);
        CHECK.due("its low part", joined.chosen(1), false);
        CHECK.due("its high part", joined.chosen(2), false);
    }
}
