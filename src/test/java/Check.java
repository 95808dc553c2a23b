/** Counts answers, prints those that are not due, and ends the program with 1 if there was one. */
final class Check {
    private final String title;
    private int done = 0;
    private int wrong = 0;

    Check(String title) {
        this.title = title;
    }

    void due(String call, long got, long want) {
        done++;
        if (got != want) {
            wrong++;
            System.out.println(title + ": " + call + " answered " + got + ", due is " + want);
        }
    }

    void due(String call, boolean got, boolean want) {
        due(call, got ? 1 : 0, want ? 1 : 0);
    }

    boolean isWrong() {
        return wrong > 0;
    }

    void finish() {
        System.out.println(title + ": " + (done - wrong) + " of " + done + " answers are as due");
        if (wrong > 0 || done == 0) {
            System.exit(1);
        }
    }
}
