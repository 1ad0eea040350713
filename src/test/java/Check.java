/** Asks, and counts the answers that are not the ones due, for one test. */
final class Check {
    private int wrong = 0;
    private String sentence = "";

    /** Names what of the document the calls that follow look at, so that a wrong answer tells it. */
    void sentence(String text) {
        sentence = text + ": ";
    }

    void due(String call, long got, long want) {
        if (got != want) {
            wrong++;
            System.out.println(sentence + call + " answered " + got + ", due is " + want);
        }
    }

    void due(String call, boolean got, boolean want) {
        due(call, got ? 1L : 0L, want ? 1L : 0L);
    }

    void same(String what, String got, String want) {
        if (!got.equals(want)) {
            wrong++;
            System.out.println(sentence + what + " is" + System.lineSeparator() + got
                    + System.lineSeparator() + "and should be" + System.lineSeparator() + want);
        }
    }

    void mean(ClockDesk desk, long limit, long mean, long count) {
        due("mean(" + limit + ", 0)", desk.mean(limit, 0), mean);
        due("mean(" + limit + ", 1)", desk.mean(limit, 1), count);
    }

    /** The survivors of 1, of 2 and so on. */
    void survivors(ClockDesk desk, int... wanted) {
        for (int k = 1; k <= wanted.length; k++) {
            due("survivors(" + k + ")", desk.survivors(k), wanted[k - 1]);
        }
    }

    /** The ranks of sources 0, 1 and so on. */
    void ranks(ClockDesk desk, int k, int... wanted) {
        for (int source = 0; source < wanted.length; source++) {
            due("rank(" + source + ", " + k + ")", desk.rank(source, k), wanted[source]);
        }
    }

    void hull(ClockDesk desk, int f, long low, long high) {
        due("hull(" + f + ", 0)", desk.hull(f, 0), low);
        due("hull(" + f + ", 1)", desk.hull(f, 1), high);
    }

    /** A tick that is taken, and the clock after it. */
    void tick(ClockDesk desk, long now, long offset) {
        due("tick(" + now + ")", desk.tick(now), true);
        due("offset(0) at " + now, desk.offset(0), offset);
        due("read() at " + now, desk.read(), now + offset);
    }

    void end() {
        System.out.println(wrong == 0 ? "all answers are as due" : wrong + " answers are not as due");
        if (wrong != 0) {
            System.exit(1);
        }
    }
}
