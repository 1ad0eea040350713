/** Counts the answers that are not the ones due, for one test. */
final class Check {
    private int wrong = 0;
    private String sentence = "";

    /** Names what of the document the calls that follow look at, so that a wrong answer tells it. */
    void sentence(String text) {
        sentence = text + ": ";
    }

    void due(String call, long got, long want) {
        if (got != want) {
            wrong++;
            System.out.println(sentence + call + " answered " + got + ", due is " + want);
        }
    }

    void due(String call, boolean got, boolean want) {
        due(call, got ? 1L : 0L, want ? 1L : 0L);
    }

    void same(String what, String got, String want) {
        if (!got.equals(want)) {
            wrong++;
            System.out.println(sentence + what + " is" + System.lineSeparator() + got
                    + System.lineSeparator() + "and should be" + System.lineSeparator() + want);
        }
    }

    void end() {
        System.out.println(wrong == 0 ? "all answers are as due" : wrong + " answers are not as due");
        if (wrong != 0) {
            System.exit(1);
        }
    }
}
