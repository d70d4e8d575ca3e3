/** Promises 12 to 16: steps, step, reason, part, told. */
final class StepSentences {
    private static final int[] NO_STEPS = {-1, 6, 511, 512, Integer.MIN_VALUE, Integer.MAX_VALUE};
    private final Check check;
    private final Looks looks;

    StepSentences(Check check) {
        this.check = check;
        this.looks = new Looks(check);
    }

    void addTo(Sentences s) {
        s.hold("Promise 12", "How many STEPS there are", this::howManySteps);
        s.hold("Promise 13", "Of a STEP: the row (what = 0), the name (1), the number (2),", this::whatOfAStep);
        s.hold("Promise 13", "the ROUND since there were no STEPS, from 1 on", this::roundsFrom1);
        s.hold("Promise 13", "rounds of all run() count", this::roundsOfAllRuns);
        s.hold("Promise 13", "OUTSIDE", this::stepOutside);
        s.hold("Promise 14", "How many parts the REASON of a STEP has", this::howManyParts);
        s.hold("Promise 14", "OUTSIDE", this::reasonOutside);
        s.hold("Promise 15", "Part k of it, by rising numbers: a name times 2, and 1 for its MOST", this::parts);
        s.hold("Promise 15", "OUTSIDE", this::partOutside);
        s.hold("Promise 16", "The bound that part k of it tells (LEAST or MOST as it was at that moment)", this::told);
        s.hold("Promise 16", "OUTSIDE", this::toldOutside);
    }

    private static LinearReach chainAtRest() {
        LinearReach x = Build.chain();
        x.run(0, 200);
        return x;
    }

    /** At most 8 times 63 and the one of a CLASH can be taken. */
    private void howManySteps() {
        LinearReach x = new LinearReach();
        check.due("of a new object", x.steps(), 0);
        for (int i = 0; i < 8; i++) {
            x.name(-32, 31);
            x.row(0, 0, 0, 0, -32);
            x.factor(i, i, 1);
        }
        check.due("before a run", x.steps(), 0);
        x.run(0, 1);
        check.due("all but one of each", x.steps(), 504);
        looks.step("the last", x, 503, 7, 7, 31, 1);
        Build.sum(x, 0, -33, 0, 0, 0, 0, 0, 0, 0, 1);
        check.due("anew", x.steps(), 0);
        x.run(0, 200);
        check.due("and one more", x.steps(), 505);
        looks.step("the last", x, 504, 8, 7, -32, 1);
        check.due("no more", x.step(505, 0), Check.OUTSIDE);
        check.due("clear()", x.clear(), 8);
        check.due("none", x.steps(), 0);
    }

    private void whatOfAStep() {
        LinearReach x = Build.names(-32, 31, -32, 31, -32, 31, -32, 31, -32, 31, -32, 31, -32, 31, -32, 31);
        for (int i = 0; i < 11; i++) {
            x.row(0, 0, 0, 0, 0);
        }
        Build.sum(x, 0, 30, 0, 0, 0, 0, 0, 0, 0, 1);
        Build.factors(x, 0, -1);
        x.factor(0, 0, 0);
        Build.factors(x, 1, -1);
        x.run(0, 1);
        // Row 1 takes -32 .. -1 of name 0; row 11 then 31 of name 7.
        looks.step("the first", x, 0, 1, 0, -32, 1);
        looks.step("the last of row 1", x, 31, 1, 0, -1, 1);
        looks.step("of row 11", x, 32, 11, 7, 31, 1);
    }

    private void roundsFrom1() {
        LinearReach x = Build.chain();
        x.run(0, 200);
        check.due("the first step", x.step(0, 3), 1);
        check.due("the last step", x.step(5, 3), 3);
        x.leave(0, 9);
        x.run(0, 1);
        check.due("anew: the first step", x.step(0, 3), 1);
        LinearReach ring = Build.slowRing();
        ring.run(0, 200);
        check.due("the last step of 200 rounds", ring.step(ring.steps() - 1, 3), 200);
        ring.run(0, 200);
        check.due("the last step", ring.step(Build.STEPS_OF_SLOW_RING - 1, 3), Build.ROUNDS_OF_SLOW_RING - 1);
    }

    private void roundsOfAllRuns() {
        LinearReach x = Build.chain();
        for (int i = 1; i <= 3; i++) {
            x.run(0, 1);
            check.due("round " + i, x.step(2 * i - 1, 3), i);
        }
        LinearReach mixed = Build.slowRing();
        mixed.run(0, 4);
        mixed.run(2, 9);
        mixed.run(0, 201);
        int before = mixed.steps();
        mixed.run(1, 1);
        check.due("four, none that were refused, and one", mixed.step(before, 3), 5);
        mixed.run(0, 1);
        check.due("and one more", mixed.step(mixed.steps() - 1, 3), 6);
    }

    private void stepOutside() {
        LinearReach x = chainAtRest();
        for (int i : NO_STEPS) {
            for (int what = -1; what <= 4; what++) {
                check.due("step(" + i + ", " + what + ")", x.step(i, what), Check.OUTSIDE);
            }
        }
        int[] noPlaces = {-1, 4, 5, Integer.MIN_VALUE, Integer.MAX_VALUE};
        for (int what : noPlaces) {
            check.due("step(0, " + what + ")", x.step(0, what), Check.OUTSIDE);
            check.due("step(5, " + what + ")", x.step(5, what), Check.OUTSIDE);
        }
        check.due("step(5, 0) is there", x.step(5, 0), 0);
        x.clear();
        check.due("without STEPS", x.step(0, 0), Check.OUTSIDE);
    }

    /** Names 1 to 7 are 3 by seven rows, of 0 .. 9 at first; row 7 counts them in name 0. */
    private static LinearReach counted() {
        LinearReach x = Build.alike(8, 0, 9);
        for (int name = 1; name < 8; name++) {
            int row = x.row(1, 0, 0, 0, 3);
            x.factor(row, name, 1);
        }
        Build.tied(x, 9, 0, 3, 0, 1, 1, 1, 1, 1, 1, 1);
        x.run(0, 1);
        return x;
    }

    private void howManyParts() {
        LinearReach x = counted();
        check.due("steps()", x.steps(), 7 * 9 + 9);
        looks.step("name 0 is not 0", x, 63, 7, 0, 0, 1);
        check.due("one name that is 3 is enough", x.reason(63), 2);
        looks.step("name 0 is not 6", x, 69, 7, 0, 6, 1);
        check.due("LEAST and MOST of all seven", x.reason(69), 14);
        looks.step("name 0 is not 8", x, 70, 7, 0, 8, 1);
        check.due("seven names are never 8", x.reason(70), 0);
        for (int i = 0; i < 63; i++) {
            check.due("a row about one name: reason(" + i + ")", x.reason(i), 0);
        }
    }

    private void reasonOutside() {
        LinearReach x = chainAtRest();
        for (int i : NO_STEPS) {
            check.due("reason(" + i + ")", x.reason(i), Check.OUTSIDE);
        }
        check.due("reason(5) is there", x.reason(5), 1);
        x.clear();
        check.due("without STEPS", x.reason(0), Check.OUTSIDE);
    }

    private void parts() {
        LinearReach x = counted();
        for (int k = 0; k < 14; k++) {
            check.due("part(69, " + k + ")", x.part(69, k), 2 + k);
        }
        looks.reason("of name 1 alone", x, 63, 2, 3, 3, 3);
        LinearReach y = Build.alike(8, 0, 9);
        Build.sum(y, 0, 4, 1);
        Build.sum(y, 0, -3, 0, 0, 0, 0, 0, 0, 0, -1);
        Build.sum(y, 0, -1, -1, 0, 0, 1, 0, 0, 0, 1);
        y.run(0, 1);
        // Name 0 is at most 4, name 7 at least 3; both and 1 of name 3 give 0, which is above -1.
        looks.step("1 of name 3", y, 12, 2, 3, 1, 1);
        looks.reason("MOST of the first name is 1, LEAST of the last is 14", y, 12, 1, 4, 14, 3);
    }

    private void partOutside() {
        LinearReach x = chainAtRest();
        for (int i : NO_STEPS) {
            check.due("part(" + i + ", 0)", x.part(i, 0), Check.OUTSIDE);
        }
        int[] noPlaces = {-1, 1, 2, 15, 16, Integer.MIN_VALUE, Integer.MAX_VALUE};
        for (int k : noPlaces) {
            check.due("part(5, " + k + ")", x.part(5, k), Check.OUTSIDE);
        }
        check.due("part(5, 0) is there", x.part(5, 0), 3);
        check.due("a STEP without parts", x.part(0, 0), Check.OUTSIDE);
        check.due("the last of 14", counted().part(69, 13), 15);
        check.due("the one after it", counted().part(69, 14), Check.OUTSIDE);
    }

    /** Name 0 is below name 1 by row 0, and above it by row 1: the bounds go on moving. */
    private void told() {
        LinearReach x = Build.names(0, 15, 0, 15);
        Build.sum(x, 0, -1, 1, -1);
        Build.sum(x, 0, -1, -1, 1);
        x.run(0, 1);
        looks.step("1 of name 0", x, 3, 1, 0, 1, 1);
        looks.reason("LEAST of name 1 was 1", x, 3, 2, 1);
        looks.step("14 of name 1", x, 4, 1, 1, 14, 1);
        looks.reason("MOST of name 0 was 14", x, 4, 1, 14);
        check.due("a later round", x.run(0, 1), 1);
        check.due("LEAST of name 1 is above 1 now", x.end(1, false) > 1 ? 1 : 0, 1);
        looks.reason("it is told as it was", x, 3, 2, 1);
        check.due("to the CLASH", x.run(0, 200), 0);
        looks.reason("it is told as it was", x, 4, 1, 14);
        LinearReach ends = Build.names(-32, 31, -32, 31);
        Build.sum(ends, 0, -32, 0, 1);
        Build.sum(ends, 0, 0, 1, -1);
        ends.run(0, 1);
        looks.reason("the lowest one", ends, 63, 3, -32);
    }

    private void toldOutside() {
        LinearReach x = chainAtRest();
        for (int i : NO_STEPS) {
            check.due("told(" + i + ", 0)", x.told(i, 0), Check.OUTSIDE);
        }
        int[] noPlaces = {-1, 1, 2, 15, 16, Integer.MIN_VALUE, Integer.MAX_VALUE};
        for (int k : noPlaces) {
            check.due("told(5, " + k + ")", x.told(5, k), Check.OUTSIDE);
        }
        check.due("told(5, 0) is there", x.told(5, 0), 5);
        check.due("a STEP without parts", x.told(0, 0), Check.OUTSIDE);
        check.due("the last of 14", counted().told(69, 13), 3);
        check.due("the one after it", counted().told(69, 14), Check.OUTSIDE);
    }
}
