/** Promises 7 to 11: run, clash, has, end, size. */
final class RunSentences {
    private static final int[] NO_NAMES = {-1, 3, 8, 64, Integer.MIN_VALUE, Integer.MAX_VALUE};
    private final Check check;
    private final Looks looks;

    RunSentences(Check check) {
        this.check = check;
        this.looks = new Looks(check);
    }

    void addTo(Sentences s) {
        s.hold("Promise 7", "So many ROUNDS at most (1 .. 200),", this::soManyRounds);
        s.hold("Promise 7", "the rows from 0 on (order = 0), or from the last one on (1)", this::order);
        s.hold("Promise 7", "how many were done", this::howManyWereDone);
        s.hold("Promise 7", "0: there is a CLASH", this::zeroWithAClash);
        s.hold("Promise 7", "OUTSIDE", this::runOutside);
        s.hold("Promise 8", "The row that took the last number, when there is a CLASH", this::rowOfTheClash);
        s.hold("Promise 8", "else NONE", this::noClash);
        s.hold("Promise 9", "Whether a number is in a name's SET: 1, 0", this::isInTheSet);
        s.hold("Promise 9", "OUTSIDE: no such name", this::hasOutside);
        s.hold("Promise 10", "LEAST of a name (most is false), MOST of it", this::ends);
        s.hold("Promise 10", "NONE: its SET has no number", this::noEnds);
        s.hold("Promise 10", "OUTSIDE", this::endOutside);
        s.hold("Promise 11", "How many numbers a name's SET has", this::sizes);
        s.hold("Promise 11", "OUTSIDE", this::sizeOutside);
    }

    private void soManyRounds() {
        LinearReach one = Build.slowRing();
        check.due("run(0, 1)", one.run(0, 1), 1);
        check.due("steps()", one.steps(), 1);
        LinearReach x = Build.slowRing();
        check.due("199 of 374", x.run(0, 199), 199);
        check.due("the next one takes", x.run(0, 1), 1);
        LinearReach y = Build.slowRing();
        check.due("200 of 374", y.run(0, 200), 200);
        check.due("200 are 199 and 1", x.steps(), y.steps());
        check.due("the last was of the 200th", x.step(x.steps() - 1, 3), 200);
        check.due("the last was of the 200th", y.step(y.steps() - 1, 3), 200);
    }

    private void order() {
        LinearReach up = Build.slowRing();
        check.due("from 0 on", up.run(0, 200), 200);
        LinearReach down = Build.slowRing();
        check.due("from the last one on", down.run(1, 200), 63);
        check.due("each of its rounds takes one of all seven names", down.steps(), Build.STEPS_OF_SLOW_RING);
        looks.step("its first", down, 0, 6, 0, -32, 1);
        looks.step("its second", down, 1, 5, 1, -32, 1);
        looks.step("its seventh", down, 6, 0, 6, -31, 1);
        looks.step("from 0 on, the second", up, 1, 5, 1, -32, 2);
    }

    private void howManyWereDone() {
        LinearReach x = Build.slowRing();
        check.due("the first 200", x.run(0, 200), 200);
        check.due("to rest", x.run(0, 200), Build.ROUNDS_OF_SLOW_RING - 200);
        check.due("at rest", x.run(0, 200), 1);
        LinearReach y = Build.slowRing();
        y.run(0, 200);
        check.due("just to the last that takes", y.run(0, 173), 173);
        check.due("the one that takes nothing", y.run(0, 173), 1);
        LinearReach z = Build.slowRing();
        z.run(0, 200);
        check.due("just to rest", z.run(0, 174), 174);
        check.due("without names and rows", new LinearReach().run(1, 1), 1);
    }

    private void zeroWithAClash() {
        LinearReach x = Build.clashing();
        check.due("in the first round", x.run(0, 1), 0);
        check.due("again", x.run(0, 1), 0);
        check.due("in the other order", x.run(1, 200), 0);
        LinearReach y = Build.chain();
        Build.sum(y, 0, -6, -1);
        check.due("one round without", y.run(0, 1), 1);
        check.due("in the second one", y.run(0, 200), 0);
        check.due("the second one it was", y.step(y.steps() - 1, 3), 2);
        check.due("by row 1", y.clash(), 1);
        y.name(0, 0);
        check.due("in the second of 200", y.run(0, 200), 0);
        y.name(0, 0);
        check.due("in the last that is told", y.run(0, 2), 0);
    }

    private void runOutside() {
        int[][] wrong = {{0, 0}, {1, 0}, {0, 201}, {1, 201}, {0, -1}, {-1, 1}, {2, 1}, {-1, 200}, {2, 200},
            {Integer.MIN_VALUE, 1}, {Integer.MAX_VALUE, 1}, {0, Integer.MIN_VALUE}, {1, Integer.MAX_VALUE}};
        LinearReach x = Build.chain();
        for (int[] one : wrong) {
            check.due("run(" + one[0] + ", " + one[1] + ")", x.run(one[0], one[1]), Check.OUTSIDE);
        }
        check.due("nothing was taken", x.steps(), 0);
        LinearReach clashed = Build.clashing();
        clashed.run(0, 1);
        for (int[] one : wrong) {
            check.due("after a CLASH: run(" + one[0] + ", " + one[1] + ")",
                    clashed.run(one[0], one[1]), Check.OUTSIDE);
        }
    }

    private void rowOfTheClash() {
        for (int order = 0; order < 2; order++) {
            LinearReach x = Build.names(0, 5);
            Build.sum(x, 0, 2, 1);
            Build.sum(x, 0, -3, -1);
            check.due("run(" + order + ", 200)", x.run(order, 200), 0);
            check.due("the row that came last", x.clash(), 1 - order);
            check.due("it took the last number", x.step(x.steps() - 1, 0), 1 - order);
        }
        LinearReach last = Build.names(0, 5);
        for (int i = 0; i < 11; i++) {
            Build.sum(last, 0, 5, 1);
        }
        Build.sum(last, 0, -1, 1);
        check.due("run(0, 200)", last.run(0, 200), 0);
        check.due("row 11", last.clash(), 11);
    }

    private void noClash() {
        LinearReach x = new LinearReach();
        check.due("a new object", x.clash(), Check.NONE);
        x.name(0, 1);
        Build.sum(x, 0, -1, 1);
        check.due("before the run", x.clash(), Check.NONE);
        x.run(0, 1);
        check.due("after it", x.clash(), 0);
        x.factor(0, 0, 0);
        check.due("begun anew", x.clash(), Check.NONE);
        x.run(0, 1);
        check.due("a row about nothing that can't hold", x.clash(), Check.NONE);
        LinearReach y = Build.chain();
        y.run(0, 200);
        check.due("rest", y.clash(), Check.NONE);
    }

    private void isInTheSet() {
        LinearReach x = Build.names(-32, 31, -3, 4);
        x.leave(1, 0);
        check.due("has(0, -32)", x.has(0, -32), 1);
        check.due("has(0, 31)", x.has(0, 31), 1);
        looks.left("a gap", x, 1, -3, -2, -1, 1, 2, 3, 4);
        int[] none = {-33, 32, -64, 64, -96, 96, 99, Integer.MIN_VALUE, Integer.MIN_VALUE + 32, Integer.MAX_VALUE};
        for (int number : none) {
            check.due("has(0, " + number + ")", x.has(0, number), 0);
        }
        LinearReach y = Build.chain();
        y.run(0, 1);
        check.due("6 of 2 is taken", y.has(2, 6), 0);
        check.due("5 of 2 is not", y.has(2, 5), 1);
        y.name(0, 0);
        check.due("6 of 2 is there again", y.has(2, 6), 1);
    }

    private void hasOutside() {
        LinearReach x = Build.alike(3, -32, 31);
        for (int name : NO_NAMES) {
            check.due("has(" + name + ", 0)", x.has(name, 0), Check.OUTSIDE);
            check.due("has(" + name + ", 99)", x.has(name, 99), Check.OUTSIDE);
        }
        check.due("no number is OUTSIDE", x.has(2, 99), 0);
    }

    private void ends() {
        LinearReach x = Build.names(-32, 31, -5, -5);
        check.due("LEAST of 0", x.end(0, false), -32);
        check.due("MOST of 0", x.end(0, true), 31);
        check.due("LEAST of 1", x.end(1, false), -5);
        check.due("MOST of 1", x.end(1, true), -5);
        Build.sum(x, 0, 30, 1);
        Build.sum(x, 0, 31, -1);
        x.run(0, 200);
        check.due("LEAST of 0 after a run", x.end(0, false), -31);
        check.due("MOST of 0 after a run", x.end(0, true), 30);
        x.leave(0, -32);
        check.due("LEAST of 0 anew", x.end(0, false), -31);
        check.due("MOST of 0 anew", x.end(0, true), 31);
    }

    private void noEnds() {
        LinearReach x = Build.names(-32, 31, 5, 5);
        Build.sum(x, 0, -33, 1);
        x.run(0, 1);
        check.due("LEAST of 0", x.end(0, false), Check.NONE);
        check.due("MOST of 0", x.end(0, true), Check.NONE);
        check.due("LEAST of 1", x.end(1, false), 5);
        x.name(0, 0);
        check.due("LEAST of 0 anew", x.end(0, false), -32);
    }

    private void endOutside() {
        LinearReach x = Build.alike(3, 0, 1);
        for (int name : NO_NAMES) {
            check.due("end(" + name + ", false)", x.end(name, false), Check.OUTSIDE);
            check.due("end(" + name + ", true)", x.end(name, true), Check.OUTSIDE);
        }
    }

    private void sizes() {
        LinearReach x = Build.names(-32, 31, 31, 31, -32, 30);
        check.due("all", x.size(0), 64);
        check.due("one", x.size(1), 1);
        check.due("all but one", x.size(2), 63);
        x.leave(0, 31);
        x.leave(0, 7);
        check.due("without two", x.size(0), 62);
        Build.sum(x, 0, 5, 1);
        x.run(0, 1);
        check.due("-32 .. 5", x.size(0), 38);
        Build.sum(x, 0, -33, 1);
        x.run(0, 1);
        check.due("none", x.size(0), 0);
    }

    private void sizeOutside() {
        LinearReach x = Build.alike(3, 0, 1);
        for (int name : NO_NAMES) {
            check.due("size(" + name + ")", x.size(name), Check.OUTSIDE);
        }
    }
}
