/** Promises 7, 8, 9, 10 and 11: run, clash, has, end, size. */
public final class RunTest {
    private static final Check check = new Check();

    /** Name 0 is below name 1 by row 0, and the other way round by row 1. */
    private static LinearReach chase(int high) {
        LinearReach x = new LinearReach();
        x.name(0, high);
        x.name(0, high);
        x.row(0, 0, 0, 0, -1);
        x.factor(0, 0, 1);
        x.factor(0, 1, -1);
        x.row(0, 0, 0, 0, -1);
        x.factor(1, 0, -1);
        x.factor(1, 1, 1);
        return x;
    }

    private static void outside() {
        LinearReach x = chase(5);
        int[][] wrong = {{-1, 1}, {2, 1}, {0, 0}, {1, 0}, {0, 201}, {1, -1}, {Integer.MAX_VALUE, 5},
            {0, Integer.MAX_VALUE}, {1, Integer.MIN_VALUE}};
        for (int[] one : wrong) {
            check.due("run(" + one[0] + ", " + one[1] + ")", x.run(one[0], one[1]), Check.OUTSIDE);
        }
        check.due("nothing was taken", x.steps(), 0);
        check.due("run to the clash", x.run(0, 200), 0);
        check.due("OUTSIDE comes before the clash", x.run(0, 0), Check.OUTSIDE);
        check.due("OUTSIDE comes before the clash", x.run(2, 1), Check.OUTSIDE);
    }

    private static void roundByRound() {
        LinearReach x = chase(9);
        check.due("one round", x.run(0, 1), 1);
        // Row 0: 9 of name 0, 0 of name 1; row 1: 0 and 1 of name 0; 8 and 9 of name 1.
        check.due("its steps", x.steps(), 6);
        check.due("size(0)", x.size(0), 7);
        check.due("size(1)", x.size(1), 7);
        check.due("least of 0", x.end(0, false), 2);
        check.due("most of 0", x.end(0, true), 8);
        check.due("least of 1", x.end(1, false), 1);
        check.due("most of 1", x.end(1, true), 7);
        check.due("no clash", x.clash(), Check.NONE);
        check.due("one more round", x.run(0, 1), 1);
        check.due("least of 0", x.end(0, false), 4);
        check.due("most of 0", x.end(0, true), 6);
        check.due("the last round", x.run(0, 200), 0);
        // Row 0 leaves 4 and 5; row 1 then wants name 0 to be 6 at least.
        check.due("the row that took the last number", x.clash(), 1);
        check.due("no more rounds", x.run(1, 200), 0);
    }

    private static void order() {
        LinearReach x = chase(9);
        check.due("the last row first", x.run(1, 1), 1);
        check.due("step 0 is of row 1", x.step(0, 0), 1);
        check.due("it is of name 0", x.step(0, 1), 0);
        check.due("its number", x.step(0, 2), 0);
        check.due("most of 0", x.end(0, true), 7);
        check.due("to the clash", x.run(1, 200), 0);
        check.due("the clash is of row 0", x.clash(), 0);
    }

    /** The first row only bites when the second one has; from the last one on, one round is enough. */
    private static void orderAndRest() {
        for (int order = 0; order < 2; order++) {
            LinearReach x = new LinearReach();
            x.name(0, 9);
            x.name(0, 9);
            x.row(0, 0, 0, 0, 0);
            x.factor(0, 0, 1);
            x.factor(0, 1, -1);
            x.row(0, 0, 0, 0, 4);
            x.factor(1, 1, 1);
            check.due("to rest", x.run(order, 200), order == 0 ? 3 : 2);
            check.due("most of 0", x.end(0, true), 4);
            check.due("rest is one round", x.run(order, 200), 1);
            check.due("in the other order too", x.run(1 - order, 1), 1);
            check.due("steps", x.steps(), 10);
        }
    }

    private static void asManyAsTold() {
        LinearReach x = chase(31);
        check.due("five rounds", x.run(0, 5), 5);
        check.due("no rest yet", x.run(0, 2), 2);
        check.due("the eighth one", x.run(0, 1), 1);
        check.due("leaves 16", x.end(0, false), 16);
        check.due("the ninth one clashes", x.run(0, 1), 0);
        check.due("by row 0", x.clash(), 0);
        LinearReach y = new LinearReach();
        y.name(0, 3);
        y.row(0, 0, 0, 0, 1);
        y.factor(0, 0, 1);
        check.due("the told one takes", y.run(0, 1), 1);
        check.due("the next one rests", y.run(0, 200), 1);
    }

    /** All ends at once: what comes after the clash in the same round is not done. */
    private static void endsAtOnce() {
        LinearReach x = new LinearReach();
        x.name(0, 3);
        x.name(0, 3);
        x.row(0, 0, 0, 0, -9);
        x.factor(0, 0, 1);
        x.factor(0, 1, 1);
        x.row(0, 0, 0, 0, 1);
        x.factor(1, 1, 1);
        check.due("a clash in the first round", x.run(0, 200), 0);
        check.due("of row 0", x.clash(), 0);
        check.due("only name 0 lost its numbers", x.steps(), 4);
        check.due("size(0)", x.size(0), 0);
        check.due("size(1)", x.size(1), 4);
        check.due("end(0, false)", x.end(0, false), Check.NONE);
        check.due("end(0, true)", x.end(0, true), Check.NONE);
        check.due("has(0, 0)", x.has(0, 0), 0);
    }

    private static void looks() {
        LinearReach x = new LinearReach();
        x.name(-32, 31);
        x.name(-3, 4);
        x.leave(1, 0);
        int[] noNames = {-1, 2, 8, 64, Integer.MIN_VALUE, Integer.MAX_VALUE};
        for (int name : noNames) {
            check.due("has of " + name, x.has(name, 0), Check.OUTSIDE);
            check.due("least of " + name, x.end(name, false), Check.OUTSIDE);
            check.due("most of " + name, x.end(name, true), Check.OUTSIDE);
            check.due("size of " + name, x.size(name), Check.OUTSIDE);
        }
        int[] noNumbers = {-33, 32, 64, -64, 96, Integer.MIN_VALUE, Integer.MAX_VALUE};
        for (int number : noNumbers) {
            check.due("has(0, " + number + ")", x.has(0, number), 0);
        }
        check.due("has(0, -32)", x.has(0, -32), 1);
        check.due("has(0, 31)", x.has(0, 31), 1);
        check.due("has(1, 0)", x.has(1, 0), 0);
        check.due("size(0)", x.size(0), 64);
        check.due("size(1)", x.size(1), 7);
        check.due("end(0, false)", x.end(0, false), -32);
        check.due("end(0, true)", x.end(0, true), 31);
        check.due("end(1, false)", x.end(1, false), -3);
        check.due("end(1, true)", x.end(1, true), 4);
    }

    public static void main(String[] args) {
        outside();
        roundByRound();
        order();
        orderAndRest();
        asManyAsTold();
        endsAtOnce();
        looks();
        check.finish();
    }
}
