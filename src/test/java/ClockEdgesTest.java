/** Each sentence of promises 14 to 18 that names a boundary, at it and one beyond it. */
public final class ClockEdgesTest {
    private static final long FAR = Desks.FAR;
    private static final long LATEST = Desks.LATEST;
    private static final long REACH = Desks.REACH;
    private static final long NO = Desks.NO;
    private static final Check CHECK = new Check();

    public static void main(String[] args) {
        tickFrom0();
        tickRoundedDown();
        tickAtMostToTheGoal();
        tickLosesWhatIsLeftOver();
        tickAsFarAsItGoes();
        tickBelowThatBefore();
        tickAbove();
        tickRefusedChangesNothing();
        steerRoundedDown();
        steerToTheFarthest();
        steerByMoreThanHalf();
        steerByMoreThanHalfOf24();
        steerByAJoinedRegion();
        steerRefusedLeavesTheGoal();
        steerByNone();
        readNowAndOffset();
        readAtTheLatest();
        offsetForOthers();
        settlesInTheLeastTime();
        settlesWhereNothingIsApart();
        settlesApartByItsReach();
        settlesApartFromAnOffset();
        CHECK.end();
    }

    private static void tickFrom0() {
        CHECK.sentence("Promise 14, the own clock is at now (0 at first)");
        CHECK.due("tick(-1)", new ClockDesk().tick(-1), false);
        CHECK.due("tick(0)", new ClockDesk().tick(0), true);
        CHECK.tick(Desks.steeredTo(10), 1999, 0);
        CHECK.tick(Desks.steeredTo(10), 2000, 1);
    }

    private static void tickRoundedDown() {
        CHECK.sentence("Promise 14, (now less the now before) / 2000, rounded down");
        long[] signs = {1, -1};
        for (long sign : signs) {
            ClockDesk desk = Desks.steeredTo(sign * 1000);
            CHECK.tick(desk, 0, 0);
            CHECK.tick(desk, 1999, 0);
            CHECK.tick(desk, 3999, sign);
            CHECK.tick(desk, 6000, 2 * sign);
            CHECK.tick(desk, 9999, 3 * sign);
            CHECK.tick(desk, 13999, 5 * sign);
            CHECK.tick(desk, 13999, 5 * sign);
        }
    }

    private static void tickAtMostToTheGoal() {
        CHECK.sentence("Promise 14, towards its goal, at most");
        long[] signs = {1, -1};
        for (long sign : signs) {
            CHECK.tick(Desks.steeredTo(5 * sign), 9999, 4 * sign);
            CHECK.tick(Desks.steeredTo(5 * sign), 10000, 5 * sign);
            CHECK.tick(Desks.steeredTo(5 * sign), 12000, 5 * sign);
            ClockDesk desk = Desks.steeredTo(5 * sign);
            CHECK.tick(desk, LATEST - 2000, 5 * sign);
            CHECK.tick(desk, LATEST, 5 * sign);
        }
    }

    private static void tickLosesWhatIsLeftOver() {
        CHECK.sentence("Promise 14, what is left over of 2000");
        ClockDesk desk = Desks.steeredTo(100);
        CHECK.tick(desk, 1999, 0);
        CHECK.tick(desk, 3998, 0);
        CHECK.tick(desk, 5998, 1);
        CHECK.tick(desk, 7997, 1);
    }

    private static void tickAsFarAsItGoes() {
        CHECK.sentence("Promise 14, from 0 to 2^57 towards a goal at - 2^58 or 2^58");
        CHECK.tick(Desks.steeredTo(FAR), LATEST, LATEST / 2000);
        CHECK.tick(Desks.steeredTo(-FAR), LATEST, -(LATEST / 2000));
    }

    private static void tickBelowThatBefore() {
        CHECK.sentence("Promise 14, False when now is below that before");
        ClockDesk desk = new ClockDesk();
        CHECK.tick(desk, 6000, 0);
        CHECK.due("tick one back", desk.tick(5999), false);
        CHECK.due("tick(0)", desk.tick(0), false);
        CHECK.due("tick(-1)", desk.tick(-1), false);
        CHECK.due("the least tick", desk.tick(Long.MIN_VALUE), false);
        CHECK.due("read()", desk.read(), 6000);
        CHECK.tick(desk, 6000, 0);
        CHECK.tick(desk, 6001, 0);
    }

    private static void tickAbove() {
        CHECK.sentence("Promise 14, False when now is above 2^57");
        ClockDesk desk = new ClockDesk();
        CHECK.due("tick(2^57 + 1)", desk.tick(LATEST + 1), false);
        CHECK.due("tick(2^58)", desk.tick(FAR), false);
        CHECK.due("the greatest tick", desk.tick(Long.MAX_VALUE), false);
        CHECK.due("read()", desk.read(), 0);
        CHECK.tick(desk, LATEST, 0);
        CHECK.due("tick(2^57 + 1) at 2^57", desk.tick(LATEST + 1), false);
        CHECK.tick(desk, LATEST, 0);
        CHECK.due("tick(2^57 - 1) at 2^57", desk.tick(LATEST - 1), false);
    }

    private static void tickRefusedChangesNothing() {
        CHECK.sentence("Promise 14, a refused tick");
        ClockDesk desk = Desks.steeredTo(10);
        CHECK.tick(desk, 6000, 3);
        String before = Desks.state(desk);
        CHECK.due("tick back", desk.tick(5999), false);
        CHECK.due("tick too far", desk.tick(LATEST + 1), false);
        CHECK.same("the state", Desks.state(desk), before);
        CHECK.tick(desk, 7999, 3);
        CHECK.tick(desk, 9999, 4);
    }

    private static void dueGoal(ClockDesk desk, long goal) {
        CHECK.due("steer()", desk.steer(), true);
        CHECK.due("offset(1)", desk.offset(1), goal);
    }

    private static void dueNoSteering(ClockDesk desk, long goal) {
        String before = Desks.state(desk);
        CHECK.due("steer()", desk.steer(), false);
        CHECK.due("offset(1)", desk.offset(1), goal);
        CHECK.same("the state", Desks.state(desk), before);
    }

    private static void steerRoundedDown() {
        CHECK.sentence("Promise 15, the sum of its ends / 2, rounded down");
        dueGoal(Desks.of(2, 4), 3);
        dueGoal(Desks.of(2, 5), 3);
        dueGoal(Desks.of(0, 1), 0);
        dueGoal(Desks.of(-1, 0), -1);
        dueGoal(Desks.of(-4, -2), -3);
        dueGoal(Desks.of(-5, -2), -4);
        dueGoal(Desks.of(-9, 4, -2, 9), 1);
    }

    private static void steerToTheFarthest() {
        CHECK.sentence("Promise 15, a region at - 2^58 and 2^58");
        dueGoal(Desks.of(FAR, FAR), FAR);
        dueGoal(Desks.of(FAR - 1, FAR), FAR - 1);
        dueGoal(Desks.of(-FAR, -FAR), -FAR);
        dueGoal(Desks.of(-FAR, -FAR + 1), -FAR);
        dueGoal(Desks.of(-FAR, FAR), 0);
        dueGoal(Desks.of(-FAR, FAR - 1), -1);
    }

    private static void steerByMoreThanHalf() {
        CHECK.sentence("Promise 15, if more than half have it in common");
        dueGoal(Desks.points(7), 7);
        dueNoSteering(Desks.points(7, 9), 0);
        dueGoal(Desks.points(7, 7), 7);
        dueGoal(Desks.points(7, 9, 7), 7);
        dueNoSteering(Desks.points(7, 9, 11), 0);
        dueNoSteering(Desks.points(7, 9, 7, 11), 0);
        dueNoSteering(Desks.points(7, 9, 7, 9), 0);
        dueGoal(Desks.points(7, 9, 7, 7), 7);
        dueNoSteering(Desks.points(7, 9, 7, 11, 13), 0);
        dueGoal(Desks.points(7, 9, 7, 11, 7), 7);
    }

    private static void steerByMoreThanHalfOf24() {
        CHECK.sentence("Promise 15, if more than half of 24 have it in common");
        ClockDesk desk = Desks.alike(24, 50, 51);
        for (int source = 12; source < 24; source++) {
            desk.interval(source, 4L * source + 100, 4L * source + 100);
        }
        dueNoSteering(desk, 0);
        desk.interval(12, 51, 51);
        dueGoal(desk, 51);
        desk.drop(12);
        dueGoal(desk, 50);
    }

    private static void steerByAJoinedRegion() {
        CHECK.sentence("Promise 15, a region that no source covers whole");
        dueGoal(Desks.of(0, 10, 5, 15, 11, 20), 10);
        dueGoal(Desks.of(0, 10, 5, 15, 12, 20), 7);
        dueNoSteering(Desks.of(0, 5, 6, 9), 0);
    }

    private static void steerRefusedLeavesTheGoal() {
        CHECK.sentence("Promise 15, false when not, the goal staying");
        ClockDesk desk = Desks.steeredTo(7);
        CHECK.tick(desk, 4000, 2);
        desk.interval(1, 20, 30);
        dueNoSteering(desk, 7);
        CHECK.due("offset(0)", desk.offset(0), 2);
    }

    private static void steerByNone() {
        CHECK.sentence("Promise 15, false when there are none");
        dueNoSteering(new ClockDesk(), 0);
        ClockDesk desk = Desks.steeredTo(7);
        desk.drop(0);
        dueNoSteering(desk, 7);
        desk.interval(23, 5, 5);
        dueGoal(desk, 5);
    }

    private static void readNowAndOffset() {
        CHECK.sentence("Promise 16, now and its offset");
        ClockDesk ahead = Desks.steeredTo(1);
        CHECK.due("read() at 0", ahead.read(), 0);
        ahead.tick(1999);
        CHECK.due("read() at 1999", ahead.read(), 1999);
        ahead.tick(3999);
        CHECK.due("read() at 3999", ahead.read(), 4000);
        ClockDesk behind = Desks.steeredTo(-1);
        behind.tick(1999);
        CHECK.due("read() behind at 1999", behind.read(), 1999);
        behind.tick(3999);
        CHECK.due("read() behind at 3999", behind.read(), 3998);
        Desks.steer(behind, -FAR);
        CHECK.due("read() after steer", behind.read(), 3998);
    }

    private static void readAtTheLatest() {
        CHECK.sentence("Promise 16, at 2^57");
        ClockDesk desk = new ClockDesk();
        desk.tick(LATEST);
        CHECK.due("read()", desk.read(), LATEST);
        ClockDesk ahead = Desks.steeredTo(FAR);
        ahead.tick(LATEST);
        CHECK.due("read() ahead", ahead.read(), LATEST + LATEST / 2000);
        ClockDesk behind = Desks.steeredTo(-FAR);
        behind.tick(LATEST);
        CHECK.due("read() behind", behind.read(), LATEST - LATEST / 2000);
    }

    private static void offsetForOthers() {
        CHECK.sentence("Promise 17, NO_OFFSET for others");
        ClockDesk desk = Desks.steeredTo(50);
        desk.tick(4000);
        for (int what : Desks.OTHERS) {
            CHECK.due("offset(" + what + ")", desk.offset(what), NO);
        }
        CHECK.due("offset(0)", desk.offset(0), 2);
        CHECK.due("offset(1)", desk.offset(1), 50);
    }

    private static void settlesInTheLeastTime() {
        CHECK.sentence("Promise 18, the least t for which t / 2000, rounded down, is how far they are apart");
        long[] goals = {1, -1, 33, -33, REACH, -REACH};
        for (long goal : goals) {
            long time = Desks.steeredTo(goal).settles();
            CHECK.due("settles() of " + goal, time, 2000 * Math.abs(goal));
            ClockDesk early = Desks.steeredTo(goal);
            early.tick(time - 1);
            CHECK.due("apart one before", Math.abs(goal - early.offset(0)), 1);
            CHECK.due("settles() one before", early.settles(), 2000);
            ClockDesk due = Desks.steeredTo(goal);
            due.tick(time);
            CHECK.due("offset(0) then", due.offset(0), goal);
            CHECK.due("settles() then", due.settles(), 0);
        }
    }

    private static void settlesWhereNothingIsApart() {
        CHECK.sentence("Promise 18, the offset is the goal");
        CHECK.due("of a new one", new ClockDesk().settles(), 0);
        ClockDesk desk = Desks.steeredTo(3);
        desk.tick(6000);
        CHECK.due("settled", desk.settles(), 0);
        Desks.steer(desk, 4);
        CHECK.due("one apart", desk.settles(), 2000);
    }

    private static void settlesApartByItsReach() {
        CHECK.sentence("Promise 18, NO_OFFSET when they are apart by more than 2^40");
        CHECK.due("by 2^40 - 1", Desks.steeredTo(REACH - 1).settles(), 2000 * (REACH - 1));
        CHECK.due("by 2^40", Desks.steeredTo(REACH).settles(), 2000 * REACH);
        CHECK.due("by 2^40 + 1", Desks.steeredTo(REACH + 1).settles(), NO);
        CHECK.due("by - 2^40", Desks.steeredTo(-REACH).settles(), 2000 * REACH);
        CHECK.due("by - 2^40 - 1", Desks.steeredTo(-REACH - 1).settles(), NO);
        CHECK.due("by 2^58", Desks.steeredTo(FAR).settles(), NO);
        CHECK.due("by - 2^58", Desks.steeredTo(-FAR).settles(), NO);
    }

    private static void settlesApartFromAnOffset() {
        CHECK.sentence("Promise 18, apart by more than 2^40, the offset not being 0");
        ClockDesk desk = Desks.steeredTo(REACH + 2);
        CHECK.tick(desk, 2000, 1);
        CHECK.due("by 2^40 + 1", desk.settles(), NO);
        CHECK.tick(desk, 4000, 2);
        CHECK.due("by 2^40", desk.settles(), 2000 * REACH);
        Desks.steer(desk, 2 - REACH);
        CHECK.due("by - 2^40", desk.settles(), 2000 * REACH);
        Desks.steer(desk, 1 - REACH);
        CHECK.due("by - 2^40 - 1", desk.settles(), NO);
        ClockDesk far = Desks.steeredTo(FAR);
        far.tick(LATEST);
        Desks.steer(far, -FAR);
        CHECK.due("across", far.settles(), NO);
    }
}
