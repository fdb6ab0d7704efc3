/** Collects the answers that are not due, for the main method of one test. */
final class Checks {
    interface Call {
        double answer();
    }

    private final String test;
    private int asked;
    private int wrong;

    Checks(String test) {
        this.test = test;
    }

    void due(String call, long want, long got) {
        asked++;
        if (got != want) {
            tellWrong(call, "" + got, "" + want);
        }
    }

    void dueMean(String call, double want, double got) {
        asked++;
        if (got != want) {
            tellWrong(call, "" + got, "" + want);
        }
    }

    /** Asks too that the refused call has changed nothing. */
    void refused(String call, Class<? extends RuntimeException> want, CardFans x, Call asking) {
        long before = x.digest();
        due(call, want.getSimpleName(), asking);
        due(call + ": digest afterwards", before, x.digest());
    }

    private void due(String call, String want, Call asking) {
        asked++;
        String got;
        try {
            got = "" + asking.answer();
        } catch (RuntimeException e) {
            got = e.getClass().getSimpleName();
        }
        if (!got.equals(want)) {
            tellWrong(call, got, want);
        }
    }

    void that(String claim, boolean holds) {
        asked++;
        if (!holds) {
            tellWrong(claim, "false", "true");
        }
    }

    private void tellWrong(String call, String got, String want) {
        wrong++;
        if (wrong <= 40) {
            System.out.println(test + ": " + call + " answered " + got + ", due is " + want);
        }
    }

    boolean allWereDue() {
        return asked > 0 && wrong == 0;
    }

    void end() {
        System.out.println(test + ": " + asked + " answers asked, " + wrong + " wrong");
        if (wrong > 0) {
            System.exit(1);
        }
    }
}
