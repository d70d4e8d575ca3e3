/** Counts the answers of one test and tells those that are not as due. */
final class Check {
    static final int NONE = -1000;
    static final int OUTSIDE = -1001;
    static final int STATE = -1002;
    static final int ROOM = -1003;

    private static final int TOLD_AT_MOST = 40;
    private String about = "";
    private int right = 0;
    private int wrong = 0;

    /** What the answers from now on are about: it is told before each wrong one. */
    void setAbout(String newAbout) {
        about = newAbout.isEmpty() ? "" : newAbout + ": ";
    }

    void due(String call, long got, long want) {
        if (got == want) {
            right++;
            return;
        }
        wrong++;
        if (wrong <= TOLD_AT_MOST) {
            System.out.println(about + call + " answered " + got + ", due is " + want);
        }
    }

    void isTrue(String what, boolean got) {
        due(what, got ? 1 : 0, 1);
    }

    boolean allRight() {
        return wrong == 0;
    }

    int answers() {
        return right + wrong;
    }

    /** Ends the test: with exit code 1, if an answer was wrong, or there was none at all. */
    void finish() {
        System.out.println(right + " answers right, " + wrong + " wrong");
        if (wrong > 0 || right == 0) {
            System.exit(1);
        }
    }
}
