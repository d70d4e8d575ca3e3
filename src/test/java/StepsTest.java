/** Promises 12 to 16: steps, step, reason, part, told. */
public final class StepsTest {
    private static final Check check = new Check();
    private static final Looks looks = new Looks(check);

    private static void chainForwards() {
        LinearReach x = Build.chain();
        check.due("no steps yet", x.steps(), 0);
        check.due("rounds", x.run(0, 200), 4);
        check.due("steps", x.steps(), 6);
        looks.step("chain", x, 0, 2, 2, 6, 1);
        looks.step("chain", x, 1, 2, 2, 7, 1);
        looks.step("chain", x, 2, 1, 1, 6, 2);
        looks.step("chain", x, 3, 1, 1, 7, 2);
        looks.step("chain", x, 4, 0, 0, 6, 3);
        looks.step("chain", x, 5, 0, 0, 7, 3);
        looks.reason("chain", x, 0);
        looks.reason("chain", x, 2, 5, 5);
        looks.reason("chain", x, 5, 3, 5);
    }

    private static void roundsOfAllRuns() {
        LinearReach x = Build.chain();
        x.run(0, 1);
        x.run(0, 1);
        x.run(1, 1);
        check.due("steps", x.steps(), 6);
        check.due("the third round", x.step(5, 3), 3);
        x = Build.chain();
        x.run(1, 200);
        check.due("all in one round", x.step(5, 3), 1);
        x.leave(0, 3);
        x.run(0, 200);
        check.due("counted anew", x.step(0, 3), 1);
        check.due("counted anew", x.step(5, 3), 3);
    }

    private static void outside() {
        LinearReach x = Build.chain();
        x.run(0, 200);
        int[] noSteps = {-1, 6, 512, Integer.MIN_VALUE, Integer.MAX_VALUE};
        for (int i : noSteps) {
            for (int what = -1; what <= 4; what++) {
                check.due("looks.step(" + i + ", " + what + ")", x.step(i, what), Check.OUTSIDE);
            }
            check.due("looks.reason(" + i + ")", x.reason(i), Check.OUTSIDE);
            check.due("part(" + i + ", 0)", x.part(i, 0), Check.OUTSIDE);
            check.due("told(" + i + ", 0)", x.told(i, 0), Check.OUTSIDE);
        }
        int[] noPlaces = {-1, 4, Integer.MIN_VALUE, Integer.MAX_VALUE};
        for (int what : noPlaces) {
            check.due("step(0, " + what + ")", x.step(0, what), Check.OUTSIDE);
        }
    }

    /** Either of two bounds would do: the one of the last name is left out first, MOST before LEAST. */
    private static void whichIsLeftOut() {
        LinearReach x = new LinearReach();
        for (int i = 0; i < 3; i++) {
            x.name(0, 9);
        }
        x.row(0, 0, 0, 0, -5);
        x.factor(0, 1, -1);
        x.row(0, 0, 0, 0, -5);
        x.factor(1, 2, -1);
        x.row(0, 0, 0, 0, 9);
        for (int name = 0; name < 3; name++) {
            x.factor(2, name, 1);
        }
        check.due("a clash", x.run(0, 1), 0);
        // 1 and 2 are at least 5; their sum is 10 at least: for 0 both bounds are needed, for 5 one of them.
        check.due("steps", x.steps(), 20);
        looks.step("both", x, 10, 2, 0, 0, 1);
        looks.reason("both", x, 10, 2, 5, 4, 5);
        looks.step("one", x, 15, 2, 0, 5, 1);
        looks.reason("one, that of the name before", x, 15, 2, 5);
        looks.step("the last", x, 19, 2, 0, 9, 1);
        looks.reason("one is needed", x, 19, 2, 5);
    }

    /** 3 times 2, both from 0 .. 9 at first. */
    private static void mostAndLeast() {
        LinearReach x = new LinearReach();
        x.name(0, 20);
        x.name(0, 9);
        x.name(0, 9);
        x.row(1, 0, 0, 0, 3);
        x.factor(0, 1, 1);
        x.row(1, 0, 0, 0, 2);
        x.factor(1, 2, 1);
        x.row(2, 0, 1, 2, 0);
        check.due("to rest", x.run(0, 200), 2);
        check.due("only 6 is left", x.size(0), 1);
        check.due("only 6 is left", x.end(0, false), 6);
        // Steps 0 to 17 are of the names 1 and 2. 0 is a product as soon as one of them can be 0.
        looks.step("0", x, 18, 2, 0, 0, 1);
        looks.reason("0", x, 18, 2, 3, 4, 2);
        // 3 alone does not divide 5, whatever name 2 is; with 5 or 1 in its place it would be one.
        looks.step("5", x, 23, 2, 0, 5, 1);
        looks.reason("5", x, 23, 2, 3, 3, 3);
        looks.step("7", x, 24, 2, 0, 7, 1);
        looks.reason("7", x, 24, 2, 3, 3, 3);
        // 9 is 3 times 3, 9 times 1: both MOST are needed.
        looks.step("9", x, 26, 2, 0, 9, 1);
        looks.reason("9", x, 26, 3, 3, 5, 2);
    }

    /** A bound is told as it was at that moment, not as it is at the end. */
    private static void toldOfThatMoment() {
        LinearReach x = new LinearReach();
        x.name(0, 15);
        x.name(0, 15);
        x.row(0, 0, 0, 0, -1);
        x.factor(0, 0, 1);
        x.factor(0, 1, -1);
        x.row(0, 0, 0, 0, -1);
        x.factor(1, 0, -1);
        x.factor(1, 1, 1);
        x.run(0, 1);
        // Row 0 took 15 of name 0 and 0 of name 1; row 1 then 0 and 1 of name 0, 14 and 15 of name 1.
        looks.step("0", x, 2, 1, 0, 0, 1);
        looks.reason("0 rests on FIRST's bounds", x, 2);
        looks.step("1", x, 3, 1, 0, 1, 1);
        looks.reason("1 rests on LEAST of 1", x, 3, 2, 1);
        looks.step("14", x, 4, 1, 1, 14, 1);
        looks.reason("14 rests on MOST of 0", x, 4, 1, 14);
        looks.reason("15 rests on FIRST's bounds", x, 5);
        x.run(0, 200);
        check.due("LEAST of 1 was 1 then", x.told(3, 0), 1);
        check.due("MOST of 0 was 14 then", x.told(4, 0), 14);
    }

    /** FIRST's bounds are those after leave(): no part of a reason. */
    private static void firstIsWithoutWhatWasLeftOut() {
        LinearReach x = new LinearReach();
        x.name(0, 5);
        x.name(0, 5);
        x.leave(1, 5);
        x.leave(1, 4);
        x.row(0, 0, 0, 0, 0);
        x.factor(0, 0, 1);
        x.factor(0, 1, -1);
        x.run(0, 200);
        check.due("steps", x.steps(), 2);
        looks.step("4", x, 0, 0, 0, 4, 1);
        looks.reason("4", x, 0);
        looks.reason("5", x, 1);
    }

    /** A gap that a row took within a set is no bound. */
    private static void gapIsNoBound() {
        LinearReach x = new LinearReach();
        x.name(0, 4);
        x.name(2, 2);
        x.name(0, 9);
        x.row(7, 0, 1, 0, 0);
        x.row(1, 0, 0, 0, 0);
        x.factor(1, 0, 1);
        x.factor(1, 2, -1);
        check.due("rounds", x.run(0, 200), 2);
        check.due("2 of name 0 was taken", x.has(0, 2), 0);
        check.due("2 of name 2 was not", x.has(2, 2), 1);
        check.due("most of 2", x.end(2, true), 4);
        check.due("steps", x.steps(), 6);
        looks.reason("the rest is FIRST's", x, 5);
    }

    /** Nearly all of eight full names can be taken. */
    private static void manySteps() {
        LinearReach x = new LinearReach();
        for (int i = 0; i < 8; i++) {
            x.name(-32, 31);
            x.row(0, 0, 0, 0, -32);
            x.factor(i, i, 1);
        }
        check.due("rounds", x.run(0, 200), 2);
        check.due("steps", x.steps(), 504);
        looks.step("the last", x, 503, 7, 7, 31, 1);
        x.row(0, 0, 0, 0, -33);
        x.factor(8, 7, 1);
        check.due("a clash", x.run(0, 200), 0);
        check.due("steps", x.steps(), 505);
        looks.step("the last", x, 504, 8, 7, -32, 1);
    }

    public static void main(String[] args) {
        chainForwards();
        roundsOfAllRuns();
        outside();
        whichIsLeftOut();
        mostAndLeast();
        toldOfThatMoment();
        firstIsWithoutWhatWasLeftOut();
        gapIsNoBound();
        manySteps();
        check.finish();
    }
}
