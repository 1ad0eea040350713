/** Promises 14 to 18: tick, steer, read, offset, settles. */
public final class ClockTest {
    private static final long FAR = Desks.FAR;
    private static final long LATEST = Desks.LATEST;
    private static final Check CHECK = new Check();

    public static void main(String[] args) {
        ticksWithoutAGoal();
        ticksTowardsAGoalAhead();
        ticksTowardsAGoalBehind();
        partsOfAStepAreLost();
        theClockNeverGoesBack();
        steering();
        steeringIsRoundedDown();
        steeringByHalfIsRefused();
        steeringByAJoinedRegion();
        steeringMovesTheGoalAlone();
        offsets();
        settling();
        CHECK.end();
    }

    private static void ticksWithoutAGoal() {
        ClockDesk desk = new ClockDesk();
        CHECK.tick(desk, 0, 0);
        CHECK.tick(desk, 5000, 0);
        CHECK.tick(desk, 5000, 0);
        CHECK.tick(desk, LATEST, 0);
        CHECK.tick(desk, LATEST, 0);
    }

    private static void ticksTowardsAGoalAhead() {
        ClockDesk desk = Desks.steeredTo(10);
        CHECK.tick(desk, 1999, 0);
        CHECK.tick(desk, 3999, 1);
        CHECK.tick(desk, 7998, 2);
        CHECK.tick(desk, 13998, 5);
        CHECK.tick(desk, 23998, 10);
        CHECK.tick(desk, 99999, 10);
    }

    private static void ticksTowardsAGoalBehind() {
        ClockDesk desk = Desks.steeredTo(-10);
        CHECK.tick(desk, 1999, 0);
        CHECK.tick(desk, 3999, -1);
        CHECK.tick(desk, 7998, -2);
        CHECK.tick(desk, 99999, -10);
        CHECK.tick(desk, LATEST, -10);
        ClockDesk far = Desks.steeredTo(-FAR);
        CHECK.tick(far, LATEST, -(LATEST / 2000));
        ClockDesk ahead = Desks.steeredTo(FAR);
        CHECK.tick(ahead, LATEST, LATEST / 2000);
    }

    private static void partsOfAStepAreLost() {
        ClockDesk desk = Desks.steeredTo(100);
        for (long now = 1999; now < 100_000; now += 1999) {
            CHECK.tick(desk, now, 0);
        }
    }

    private static void theClockNeverGoesBack() {
        ClockDesk desk = new ClockDesk();
        long now = 0;
        long shown = desk.read();
        for (int round = 0; round < 60; round++) {
            desk.interval(0, round % 2 == 0 ? -FAR : FAR, round % 2 == 0 ? -FAR : FAR);
            desk.steer();
            CHECK.due("read after steer", desk.read(), shown);
            now += round * 997L;
            desk.tick(now);
            CHECK.due("goes on at " + now, desk.read() >= shown, true);
            shown = desk.read();
        }
    }

    private static void steering() {
        ClockDesk desk = new ClockDesk();
        CHECK.due("steer without sources", desk.steer(), false);
        desk.interval(0, 10, 20);
        CHECK.due("steer by one", desk.steer(), true);
        CHECK.due("goal", desk.offset(1), 15);
        desk.interval(1, 16, 30);
        CHECK.due("steer by two of two", desk.steer(), true);
        CHECK.due("goal of both", desk.offset(1), 18);
        desk.interval(2, 100, 110);
        CHECK.due("steer by two of three", desk.steer(), true);
        desk.drop(0);
        desk.drop(1);
        desk.drop(2);
        CHECK.due("steer by none", desk.steer(), false);
        CHECK.due("goal stays", desk.offset(1), 18);
    }

    private static void steeringIsRoundedDown() {
        ClockDesk desk = new ClockDesk();
        desk.interval(3, 2, 5);
        desk.steer();
        CHECK.due("goal of 2 .. 5", desk.offset(1), 3);
        desk.interval(3, -5, -2);
        desk.steer();
        CHECK.due("goal of -5 .. -2", desk.offset(1), -4);
        desk.interval(3, -FAR, FAR);
        desk.steer();
        CHECK.due("goal of the widest", desk.offset(1), 0);
        desk.interval(3, FAR, FAR);
        desk.steer();
        CHECK.due("goal of the farthest", desk.offset(1), FAR);
        desk.interval(3, -FAR, -FAR);
        desk.steer();
        CHECK.due("goal of the first", desk.offset(1), -FAR);
    }

    private static void steeringByHalfIsRefused() {
        ClockDesk desk = Desks.steeredTo(7);
        desk.interval(0, 0, 2);
        desk.interval(1, 10, 12);
        CHECK.due("steer by one of two", desk.steer(), false);
        CHECK.due("goal stays", desk.offset(1), 7);
        desk.interval(2, 1, 3);
        desk.interval(3, 20, 22);
        CHECK.due("steer by two of four", desk.steer(), false);
        desk.interval(4, 1, 1);
        CHECK.due("steer by three of five", desk.steer(), true);
        CHECK.due("new goal", desk.offset(1), 1);
        desk.interval(5, 30, 32);
        CHECK.due("steer by three of six", desk.steer(), false);
        desk.interval(6, 30, 32);
        CHECK.due("steer by three of seven", desk.steer(), false);
        desk.drop(6);
        desk.drop(5);
        desk.drop(3);
        CHECK.due("steer by three of four", desk.steer(), true);
    }

    private static void steeringByAJoinedRegion() {
        // Each point of 5 .. 15 has two of three, though only one source covers all of it.
        ClockDesk desk = new ClockDesk();
        desk.interval(0, 0, 10);
        desk.interval(1, 5, 15);
        desk.interval(2, 11, 20);
        CHECK.due("steer by a joined region", desk.steer(), true);
        CHECK.due("its goal", desk.offset(1), 10);
    }

    private static void steeringMovesTheGoalAlone() {
        ClockDesk desk = Desks.steeredTo(50);
        CHECK.due("offset", desk.offset(0), 0);
        CHECK.due("read", desk.read(), 0);
        CHECK.tick(desk, 20000, 10);
        Desks.steer(desk, -50);
        CHECK.due("offset stays", desk.offset(0), 10);
        CHECK.due("read stays", desk.read(), 20010);
        desk.interval(0, 900, 900);
        CHECK.due("goal stays without steer", desk.offset(1), -50);
        CHECK.tick(desk, 24000, 8);
    }

    private static void offsets() {
        ClockDesk desk = Desks.steeredTo(50);
        CHECK.tick(desk, 4000, 2);
        CHECK.due("offset(1)", desk.offset(1), 50);
    }

    private static void settling() {
        ClockDesk desk = Desks.steeredTo(50);
        CHECK.due("settles ahead", desk.settles(), 100000);
        CHECK.tick(desk, 4000, 2);
        CHECK.due("settles after a tick", desk.settles(), 96000);
        Desks.steer(desk, -1);
        CHECK.due("settles behind", desk.settles(), 6000);
        Desks.steer(desk, 2);
        CHECK.due("settled", desk.settles(), 0);
    }
}
