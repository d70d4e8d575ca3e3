/** Of 'Terms' what is impossible, and what a round, a clash, a step and a reason are. */
final class RoundSentences {
    private static final String TERMS = "Terms";
    private static final int[][] SPANS = {{1, 3}, {-3, 2}, {-5, -2}, {0, 0}, {1, 1}, {2, 2}, {-1, 4}};
    private final Check check;
    private final Looks looks;

    RoundSentences(Check check) {
        this.check = check;
        this.looks = new Looks(check);
    }

    void addTo(Sentences s) {
        s.hold(TERMS, "if there are no numbers for the other names that it is about", this::noNumbersForTheOthers);
        s.hold(TERMS, "each from LEAST to MOST of that name (whether they are in its SET or not)", this::gaps);
        s.hold(TERMS, "(Of JUST: if that is so of AT MOST with the same FACTORS and RIGHT,", this::tooMuch);
        s.hold(TERMS, "or of AT MOST with all signs of FACTORS and RIGHT turned.)", this::tooLittle);
        s.hold(TERMS, "A ROUND goes through the rows, from 0 on, or from the last one on", this::rowByRow);
        s.hold(TERMS, "of each through the names that it is about, by rising numbers", this::nameByName);
        s.hold(TERMS, "of each through the numbers of its SET, from the least on", this::numberByNumber);
        s.hold(TERMS, "one that is IMPOSSIBLE is TAKEN out at once "
                + "(LEAST and MOST are those as they are at each moment)", this::takenAtOnce);
        s.hold(TERMS, "Rounds are done up to one that takes nothing (which counts", this::upToRest);
        s.hold(TERMS, "then there is REST)", this::restStays);
        s.hold(TERMS, "or as many as are told", this::asManyAsTold);
        s.hold(TERMS, "CLASH: a name's SET has no number any more", this::noNumberAnyMore);
        s.hold(TERMS, "all ends at once,", this::allEndsAtOnce);
        s.hold(TERMS, "and no round is done any more", this::noRoundAnyMore);
        s.hold(TERMS, "Each number that is TAKEN is a STEP, numbered from 0 on", this::stepsFrom0);
        s.hold(TERMS, "of the other names that the row is about, each LEAST that is not FIRST's, "
                + "and each MOST that is not FIRST's, as they were at that moment", this::boundsOfOthers);
        s.hold(TERMS, "from the last name to the first, of each first MOST, then LEAST, is left out",
                this::leftOutFromLast);
        s.hold(TERMS, "if without it (FIRST's LEAST or MOST in its place, and of those that were left out) "
                + "the number is IMPOSSIBLE still", this::leftOutTogether);
    }

    /** x is at most y - 3: the bounds themselves are possible, one beside them is not. */
    private void noNumbersForTheOthers() {
        LinearReach x = Build.names(0, 9, 0, 9);
        Build.sum(x, 0, -3, 1, -1);
        check.due("run(0, 200)", x.run(0, 200), 2);
        looks.left("x", x, 0, 0, 1, 2, 3, 4, 5, 6);
        looks.left("y", x, 1, 3, 4, 5, 6, 7, 8, 9);
        LinearReach alone = Build.names(0, 9);
        Build.sum(alone, 0, 8, 2);
        alone.run(0, 200);
        looks.left("without other names the row alone says it", alone, 0, 0, 1, 2, 3, 4);
        for (int kind = 0; kind < 10; kind++) {
            for (int place = 0; place < 3; place++) {
                for (int[] one : SPANS) {
                    for (int[] other : SPANS) {
                        againstAllNumbers(kind, place, one, other);
                    }
                }
            }
        }
    }

    /** Name 0, as a, b or c (place 0, 1, 2), against PlainReach, which tries all numbers of the others. */
    private void againstAllNumbers(int kind, int place, int[] one, int[] other) {
        LinearReach x = Build.names(-32, 31, one[0], one[1], other[0], other[1]);
        PlainReach due = new PlainReach();
        due.name(-32, 31);
        due.name(one[0], one[1]);
        due.name(other[0], other[1]);
        x.row(kind, (3 - place) % 3, (4 - place) % 3, (5 - place) % 3, 2);
        due.row(kind, (3 - place) % 3, (4 - place) % 3, (5 - place) % 3, 2);
        int[] factors = {1, 2, -1};
        for (int name = 0; name < 3; name++) {
            x.factor(0, name, factors[name]);
            due.factor(0, name, factors[name]);
        }
        x.run(0, 1);
        due.run(0, 1);
        String title = "kind " + kind + ", place " + place + ", " + one[0] + " .. " + one[1] + ", "
                + other[0] + " .. " + other[1];
        for (int v = -32; v <= 31; v++) {
            check.due(title + ": has(0, " + v + ")", x.has(0, v), due.has(0, v));
        }
    }

    private void gaps() {
        LinearReach x = Build.names(0, 31, 1, 3, 5, 5);
        x.leave(1, 2);
        x.row(2, 0, 1, 2, 0);
        x.run(0, 200);
        looks.left("10 is 2 times 5, though 2 was left out", x, 0, 5, 10, 15);
        LinearReach y = Build.names(0, 2, 0, 2);
        y.leave(0, 1);
        Build.sum(y, 1, 0, 1, -1);
        check.due("nothing is taken", y.run(0, 200), 1);
        looks.left("1 has 1", y, 1, 0, 1, 2);
        check.due("though no plan has it", y.plans(), 2);
        LinearReach ends = Build.names(0, 3, 0, 3);
        ends.leave(0, 0);
        ends.leave(0, 3);
        Build.sum(ends, 1, 0, 1, -1);
        ends.run(0, 200);
        looks.left("what is left out at the ends is no bound", ends, 1, 1, 2);
        for (int kind = 0; kind < 10; kind++) {
            for (int place = 0; place < 3; place++) {
                LinearReach withGaps = aboutOneToThree(kind, place, true);
                LinearReach without = aboutOneToThree(kind, place, false);
                for (int v = -32; v <= 31; v++) {
                    check.due("kind " + kind + ", place " + place + ": has(0, " + v + ")",
                            withGaps.has(0, v), without.has(0, v));
                }
            }
        }
    }

    /** Name 0 is a, b or c (place 0, 1, 2) of a row; the others have 1 .. 3, or 1 and 3; one round. */
    private static LinearReach aboutOneToThree(int kind, int place, boolean withGaps) {
        LinearReach x = Build.names(-32, 31, 1, 3, 1, 3);
        if (withGaps) {
            x.leave(1, 2);
            x.leave(2, 2);
        }
        x.row(kind, (3 - place) % 3, (4 - place) % 3, (5 - place) % 3, 2);
        Build.factors(x, 0, 1, 1, 1);
        x.run(0, 1);
        return x;
    }

    /** x and y are 4 together, y is 0 .. 2. */
    private static LinearReach together(int kind, int right, int sign) {
        LinearReach x = Build.names(0, 9, 0, 2);
        Build.sum(x, kind, right, sign, sign);
        x.run(0, 200);
        return x;
    }

    private void tooMuch() {
        check.due("JUST: MOST", together(1, 4, 1).end(0, true), 4);
        check.due("AT MOST: MOST", together(0, 4, 1).end(0, true), 4);
        check.due("JUST, signs turned: MOST", together(1, -4, -1).end(0, true), 4);
    }

    private void tooLittle() {
        check.due("JUST: LEAST", together(1, 4, 1).end(0, false), 2);
        check.due("AT MOST, turned: LEAST", together(0, -4, -1).end(0, false), 2);
        check.due("JUST, signs turned: LEAST", together(1, -4, -1).end(0, false), 2);
        LinearReach odd = Build.names(0, 5, 0, 5);
        Build.sum(odd, 1, 5, 2, 2);
        check.due("2x + 2y = 5: each number is too much and too little with others", odd.run(0, 1), 1);
        looks.left("2x is at most 5", odd, 0, 0, 1, 2);
        check.due("though there is no plan", odd.plans(), 0);
    }

    private void rowByRow() {
        LinearReach up = Build.chain();
        check.due("from 0 on", up.run(0, 200), 4);
        for (int i = 0; i < 6; i++) {
            check.due("the row of step " + i, up.step(i, 0), 2 - i / 2);
            check.due("the round of step " + i, up.step(i, 3), 1 + i / 2);
        }
        LinearReach down = Build.chain();
        check.due("from the last one on", down.run(1, 200), 2);
        for (int i = 0; i < 6; i++) {
            check.due("the row of step " + i, down.step(i, 0), 2 - i / 2);
            check.due("the round of step " + i, down.step(i, 3), 1);
        }
        LinearReach apart = Build.alike(3, 0, 1);
        for (int i = 0; i < 3; i++) {
            apart.row(0, 0, 0, 0, 0);
            apart.factor(i, 2 - i, 1);
        }
        apart.run(0, 1);
        check.due("row 0 is the first", apart.step(0, 0), 0);
        check.due("row 2 is the last", apart.step(2, 0), 2);
    }

    /** GREATEST with a = 2, b = 1, c = 0: not a is the first, but name 0. */
    private void nameByName() {
        LinearReach x = Build.names(0, 9, 3, 9, 0, 5);
        x.row(5, 2, 1, 0, 0);
        x.run(0, 1);
        int[] names = {0, 0, 0, 0, 1, 1, 1, 1, 2, 2, 2};
        check.due("steps()", x.steps(), names.length);
        for (int i = 0; i < names.length; i++) {
            check.due("the name of step " + i, x.step(i, 1), names[i]);
        }
    }

    private void numberByNumber() {
        LinearReach x = Build.names(2, 3, -5, 5);
        x.row(4, 0, 1, 0, 0);
        for (int order = 0; order < 2; order++) {
            x.leave(1, 9);
            x.run(order, 1);
            int[] numbers = {-5, -4, -1, 0, 1, 4, 5};
            check.due("steps()", x.steps(), numbers.length);
            for (int i = 0; i < numbers.length; i++) {
                check.due("the number of step " + i, x.step(i, 2), numbers[i]);
            }
        }
    }

    /** 2x - 2y is 1: x loses 0, and for that y loses 0, in the same round and row. */
    private void takenAtOnce() {
        LinearReach x = Build.names(0, 3, 0, 3);
        Build.sum(x, 1, 1, 2, -2);
        check.due("one round", x.run(0, 1), 1);
        check.due("steps()", x.steps(), 3);
        looks.step("0 of x", x, 0, 0, 0, 0, 1);
        looks.step("0 of y", x, 1, 0, 1, 0, 1);
        looks.reason("0 of y", x, 1, 0, 1);
        looks.step("3 of y", x, 2, 0, 1, 3, 1);
        looks.reason("3 of y", x, 2);
        LinearReach rows = Build.chain();
        rows.run(1, 1);
        check.due("a row sees what the row before took", rows.end(0, true), 5);
    }

    private void upToRest() {
        check.due("without rows the first round takes nothing", new LinearReach().run(0, 200), 1);
        LinearReach x = Build.names(0, 3);
        Build.sum(x, 0, 3, 1);
        check.due("nor does a row that all hold with", x.run(0, 200), 1);
        LinearReach y = Build.names(0, 3);
        Build.sum(y, 0, 2, 1);
        check.due("one that takes, one that takes nothing", y.run(0, 200), 2);
        check.due("three that take, one that takes nothing", Build.chain().run(0, 200), 4);
    }

    private void restStays() {
        LinearReach x = Build.chain();
        x.run(0, 200);
        for (int i = 0; i < 4; i++) {
            check.due("one round that takes nothing", x.run(i % 2, 200), 1);
            check.due("steps()", x.steps(), 6);
        }
    }

    private void asManyAsTold() {
        int[] steps = {0, 2, 4, 6, 6, 6};
        for (int rounds = 1; rounds <= 5; rounds++) {
            LinearReach x = Build.chain();
            check.due("run(0, " + rounds + ")", x.run(0, rounds), Math.min(4, rounds));
            check.due("steps()", x.steps(), steps[rounds]);
        }
    }

    private void noNumberAnyMore() {
        LinearReach x = Build.names(0, 1, 5, 5);
        Build.sum(x, 0, 0, 1);
        x.run(0, 200);
        check.due("one number is left: no CLASH", x.clash(), Check.NONE);
        check.due("one number is left: size(0)", x.size(0), 1);
        int row = Build.sum(x, 0, -1, 1);
        check.due("run", x.run(0, 200), 0);
        check.due("none is left: CLASH", x.clash(), row);
        check.due("none is left: size(0)", x.size(0), 0);
    }

    /** Neither the row's next name, nor the next row, nor the next round is gone through. */
    private void allEndsAtOnce() {
        LinearReach x = Build.names(0, 2, 0, 2, 0, 2);
        Build.sum(x, 0, -1, 1, 1);
        Build.sum(x, 0, 0, 0, 0, 1);
        check.due("run", x.run(0, 200), 0);
        check.due("only name 0 was gone through", x.steps(), 3);
        check.due("size(0)", x.size(0), 0);
        check.due("size(1)", x.size(1), 3);
        check.due("size(2)", x.size(2), 3);
        x.leave(0, 9);
        check.due("from the last one on", x.run(1, 200), 0);
        check.due("row 1 came before the CLASH", x.size(2), 1);
        check.due("steps()", x.steps(), 5);
        LinearReach later = Build.names(0, 2, 0, 2);
        Build.sum(later, 0, -1, 0, 1);
        Build.sum(later, 0, 0, 1);
        check.due("of a later name: run", later.run(0, 200), 0);
        check.due("row 1 is not gone through", later.size(0), 3);
        check.due("steps()", later.steps(), 3);
    }

    private void noRoundAnyMore() {
        LinearReach x = Build.names(0, 2, 0, 2);
        Build.sum(x, 0, -1, 0, 1);
        Build.sum(x, 0, 0, 1);
        check.due("run", x.run(0, 200), 0);
        for (int order = 0; order < 2; order++) {
            check.due("run again", x.run(order, 200), 0);
            check.due("steps()", x.steps(), 3);
            check.due("size(0)", x.size(0), 3);
            check.due("clash()", x.clash(), 0);
        }
    }

    private void stepsFrom0() {
        LinearReach x = Build.chain();
        check.due("before", x.step(0, 0), Check.OUTSIDE);
        x.run(0, 1);
        check.due("steps()", x.steps(), 2);
        looks.step("the first", x, 0, 2, 2, 6, 1);
        looks.step("the second", x, 1, 2, 2, 7, 1);
        check.due("no third yet", x.step(2, 0), Check.OUTSIDE);
        x.run(0, 1);
        looks.step("it comes in the next round", x, 2, 1, 1, 6, 2);
        looks.step("the first stays", x, 0, 2, 2, 6, 1);
    }

    private void boundsOfOthers() {
        LinearReach x = Build.alike(4, 0, 9);
        Build.sum(x, 0, -2, -1);
        Build.sum(x, 0, 5, 0, 1);
        Build.sum(x, 0, 5, 0, 0, 1);
        Build.sum(x, 0, 0, 1, -1);
        x.run(0, 1);
        // Steps 0, 1: of name 0; 2 to 5: 6 .. 9 of name 1; 6 to 9: the same of name 2; then 6 .. 9 of name 0.
        looks.step("6 of name 0", x, 10, 3, 0, 6, 1);
        looks.reason("not its own LEAST, nor name 2 that the row is not about", x, 10, 3, 5);
        looks.step("0 of name 1", x, 14, 3, 1, 0, 1);
        looks.reason("LEAST of name 0, not its MOST", x, 14, 0, 2);
        looks.reason("no other name", x, 0);
        LinearReach first = Build.names(0, 9, 0, 9);
        first.leave(1, 9);
        Build.sum(first, 0, 0, 1, -1);
        first.run(0, 1);
        looks.step("9 of name 0", first, 0, 0, 0, 9, 1);
        looks.reason("MOST of name 1 is FIRST's", first, 0);
    }

    /** Names 1 and 2 are at least 5; for name 0 to be 5 is too much with either of them. */
    private void leftOutFromLast() {
        LinearReach x = Build.alike(3, 0, 9);
        Build.sum(x, 0, -5, 0, -1);
        Build.sum(x, 0, -5, 0, 0, -1);
        Build.sum(x, 0, 9, 1, 1, 1);
        check.due("run", x.run(0, 1), 0);
        looks.step("4 of name 0", x, 14, 2, 0, 4, 1);
        looks.reason("4 needs both", x, 14, 2, 5, 4, 5);
        looks.step("5 of name 0", x, 15, 2, 0, 5, 1);
        looks.reason("the last name is left out, the first stays", x, 15, 2, 5);
        LinearReach mixed = Build.names(0, 9, 0, 9, 0, 9);
        Build.sum(mixed, 0, -5, 0, -1);
        Build.sum(mixed, 0, 4, 0, 0, 1);
        Build.sum(mixed, 0, 0, 1, 1, -1);
        check.due("run", mixed.run(0, 1), 0);
        looks.step("0 of name 0", mixed, 10, 2, 0, 0, 1);
        looks.reason("LEAST of one, MOST of the other", mixed, 10, 2, 5, 5, 4);
        looks.step("5 of name 0", mixed, 15, 2, 0, 5, 1);
        looks.reason("MOST of the last name is left out first", mixed, 15, 2, 5);
        LinearReach only = Build.names(0, 9, 0, 9);
        Build.sum(only, 1, 4, 0, 1);
        only.row(7, 0, 1, 0, 0);
        only.run(0, 1);
        looks.step("4 of name 0", only, 9, 1, 0, 4, 1);
        looks.reason("one number alone is unlike: MOST and LEAST stay", only, 9, 2, 4, 3, 4);
    }

    /** Any two of three bounds are enough: when one is out, neither of the others can be left out. */
    private void leftOutTogether() {
        LinearReach x = Build.alike(4, 0, 9);
        Build.sum(x, 0, -5, 0, -1);
        Build.sum(x, 0, -5, 0, 0, -1);
        Build.sum(x, 0, -5, 0, 0, 0, -1);
        Build.sum(x, 0, 9, 1, 1, 1, 1);
        check.due("run", x.run(0, 1), 0);
        looks.step("0 of name 0", x, 15, 3, 0, 0, 1);
        looks.reason("names 1 and 2 stay", x, 15, 2, 5, 4, 5);
        looks.step("4 of name 0", x, 19, 3, 0, 4, 1);
        looks.reason("names 1 and 2 stay", x, 19, 2, 5, 4, 5);
        looks.step("5 of name 0", x, 20, 3, 0, 5, 1);
        looks.reason("name 1 alone is enough", x, 20, 2, 5);
        LinearReach told = Build.names(0, 9, 0, 9, 0, 9);
        told.leave(2, 0);
        Build.sum(told, 0, -5, 0, -1);
        Build.sum(told, 0, -3, 0, 0, -1);
        Build.sum(told, 0, 9, 1, 1, 1);
        told.run(0, 1);
        // Name 1 is at least 5, name 2 at least 3, FIRST's LEAST of it is 1: 4 and 5 and 1 are above 9.
        looks.step("2 of name 0", told, 7, 2, 0, 2, 1);
        looks.reason("2, 5 and 3 are above 9, but 2, 5 and 1 are not", told, 7, 2, 5, 4, 3);
        looks.step("4 of name 0", told, 9, 2, 0, 4, 1);
        looks.reason("FIRST's LEAST, not 0, is in its place", told, 9, 2, 5);
    }
}
