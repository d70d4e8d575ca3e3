import java.util.Random;

/** 'What it is', and of 'Terms' names, sets, rows, what holds and what a plan is. */
final class TermsSentences {
    private static final String TERMS = "Terms";
    private static final int[] NAMED = {0, 0, 3, 3, 2, 3, 3, 2, 1, 1};
    private final Check check;
    private final Looks looks;

    TermsSentences(Check check) {
        this.check = check;
        this.looks = new Looks(check);
    }

    void addTo(Sentences s) {
        s.sayNoMore("What it is", "Names with sets of whole numbers, and rows that tie them together");
        s.hold("What it is", "An object is used for at most 512 calls", this::upToCall512);
        s.sayNoMore("What it is", "what later calls answer is free");
        s.hold(TERMS, "till there is rest, which is the same in whatever order", this::sameRest);
        s.sayNoMore(TERMS, "each with the few bounds of the other names on which it rests");
        s.hold(TERMS, "when a name has none left, the row that took the last one is told", this::lastOneIsTold);
        s.hold(TERMS, "NAMES, 8 at most, are numbered from 0 on", this::eightNames);
        s.hold(TERMS, "whole numbers within -32 .. 31", this::widestSet);
        s.hold(TERMS, "all from a LOW to a HIGH but those that were left out", this::butThoseLeftOut);
        s.hold(TERMS, "LEAST and MOST of a name are the least and the greatest number in its SET", this::leastAndMost);
        s.hold(TERMS, "FIRST are the SETS as they were told", this::firstIsAsTold);
        s.hold(TERMS, "ROWS, 12 at most, have a KIND", this::twelveRows);
        s.hold(TERMS, "up to three different names a, b, c (those that the KIND has)", this::differentNames);
        s.hold(TERMS, "a RIGHT (-1000 .. 1000)", this::rights);
        s.hold(TERMS, "for KINDS 0, 1, 8, 9 a FACTOR for each name (-9 .. 9, 0 at first", this::factors);
        s.hold(TERMS, "of a, where the KIND has one, always 0)", this::factorOfA);
        s.hold(TERMS, "SUM: that of the FACTORS times the names' numbers", this::sums);
        addKindsTo(s);
        s.hold(TERMS, "A row is about a, b, c (those that its KIND has), and the names with a FACTOR that is not 0",
                this::about);
        s.hold(TERMS, "A PLAN: a number for each name, of its SET now, so that all rows HOLD", this::plan);
    }

    private void addKindsTo(Sentences s) {
        s.hold(TERMS, "0 AT MOST: SUM is at most RIGHT", this::atMost);
        s.hold(TERMS, "1 JUST: SUM is RIGHT", this::just);
        s.hold(TERMS, "2 PRODUCT: a is b times c", this::product);
        s.hold(TERMS, "3 QUOTIENT: c is not 0,", this::quotientBy0);
        s.hold(TERMS, "and a is b divided by c, rounded down", this::quotient);
        s.hold(TERMS, "4 AMOUNT: a is b without its sign", this::amount);
        s.hold(TERMS, "5 GREATEST: a is the greater one of b and c", this::greatest);
        s.hold(TERMS, "6 LEAST: a is the lesser one", this::least);
        s.hold(TERMS, "7 UNLIKE: a is not b and RIGHT added", this::unlike);
        s.hold(TERMS, "8 IF: a is not 1, or SUM is at most RIGHT", this::ifTrue);
        s.hold(TERMS, "9 COUNT: a is how many of the names with a FACTOR that is not 0 are RIGHT", this::count);
    }

    private void upToCall512() {
        LinearReach x = Build.slowRing();
        int calls = Build.CALLS_OF_SLOW_RING;
        while (calls < 510) {
            check.due("call " + (calls + 1) + ": run(0, 1)", x.run(0, 1), 1);
            calls++;
        }
        int last = Build.STEPS_OF_SLOW_RING - 1;
        check.due("call 511: step(" + last + ", 3)", x.step(last, 3), Build.ROUNDS_OF_SLOW_RING - 1);
        check.due("call 512: told(" + last + ", 0)", x.told(last, 0), 30);
    }

    /** Rows of all kinds among four names; three orders of rounds. */
    private void sameRest() {
        int rests = 0;
        for (int seed = 1; seed <= 60; seed++) {
            LinearReach up = anyRows(seed);
            LinearReach down = anyRows(seed);
            LinearReach both = anyRows(seed);
            boolean isRest = up.run(0, 200) > 0;
            check.due("seed " + seed + ": down", down.run(1, 200) > 0 ? 1 : 0, isRest ? 1 : 0);
            for (int i = 0; i < 60; i++) {
                both.run(1, 1);
                both.run(0, 1);
            }
            check.due("seed " + seed + ": both ways", both.run(1, 200), isRest ? 1 : 0);
            if (isRest) {
                rests++;
                looks.sameSets("seed " + seed + ": down", down, up);
                looks.sameSets("seed " + seed + ": both ways", both, up);
            }
        }
        check.isTrue("some come to rest, some do not", rests > 10 && rests < 50);
    }

    private static LinearReach anyRows(int seed) {
        Random random = new Random(seed);
        LinearReach x = Build.alike(4, -2, 6);
        for (int row = 0; row < 8; row++) {
            int a = random.nextInt(4);
            x.row(random.nextInt(10), a, (a + 1) % 4, (a + 2) % 4, random.nextInt(9) - 4);
            for (int name = 0; name < 4; name++) {
                x.factor(row, name, random.nextInt(5) - 2);
            }
        }
        return x;
    }

    /** Row 0 takes most numbers, row 1 the last one; row 2 would have taken all. */
    private void lastOneIsTold() {
        LinearReach x = Build.names(0, 5);
        Build.sum(x, 0, 0, 1);
        Build.sum(x, 0, -1, 1);
        Build.sum(x, 0, -9, 1);
        check.due("run(0, 200)", x.run(0, 200), 0);
        check.due("clash()", x.clash(), 1);
        LinearReach y = Build.names(0, 5);
        Build.sum(y, 0, -1, 1);
        Build.sum(y, 0, 0, 1);
        check.due("the last row first", y.run(1, 200), 0);
        check.due("clash()", y.clash(), 0);
    }

    private void eightNames() {
        LinearReach x = new LinearReach();
        for (int i = 0; i < 8; i++) {
            check.due("before: size(" + i + ")", x.size(i), Check.OUTSIDE);
            check.due("name " + i, x.name(i, i + i), i);
            check.due("size(" + i + ")", x.size(i), i + 1);
        }
        check.due("a ninth", x.name(0, 0), Check.ROOM);
        check.due("size(8)", x.size(8), Check.OUTSIDE);
        check.due("the first is as it was", x.size(0), 1);
        check.due("the last is as it was", x.end(7, true), 14);
    }

    private void widestSet() {
        LinearReach x = Build.names(-32, 31, -32, -32, 31, 31);
        check.due("size(0)", x.size(0), 64);
        for (int v = -32; v <= 31; v++) {
            check.due("has(0, " + v + ")", x.has(0, v), 1);
        }
        looks.left("the lowest", x, 1, -32);
        looks.left("the highest", x, 2, 31);
    }

    private void butThoseLeftOut() {
        for (int number = -32; number <= 31; number++) {
            LinearReach all = Build.names(-32, 31);
            all.leave(0, number);
            check.due("all but " + number + ": size(0)", all.size(0), 63);
            check.due("all but " + number + ": has it", all.has(0, number), 0);
        }
        LinearReach x = Build.names(-3, 4);
        x.leave(0, -3);
        x.leave(0, 0);
        x.leave(0, 4);
        looks.left("without -3, 0, 4", x, 0, -2, -1, 1, 2, 3);
        check.due("size(0)", x.size(0), 5);
    }

    private void leastAndMost() {
        LinearReach x = Build.names(-32, 31);
        x.leave(0, 5);
        check.due("LEAST beside a gap", x.end(0, false), -32);
        check.due("MOST beside a gap", x.end(0, true), 31);
        for (int i = 0; i < 31; i++) {
            x.leave(0, -32 + i);
            check.due("LEAST", x.end(0, false), -31 + i);
            x.leave(0, 31 - i);
            check.due("MOST", x.end(0, true), i == 25 ? 4 : 30 - i);
        }
        x.leave(0, -1);
        check.due("LEAST of one number", x.end(0, false), 0);
        check.due("MOST of one number", x.end(0, true), 0);
    }

    private void firstIsAsTold() {
        LinearReach x = Build.names(0, 5, 0, 5);
        x.leave(1, 5);
        Build.sum(x, 0, 3, 0, 1);
        check.due("1 after a run", x.run(0, 200), 2);
        looks.left("1 after a run", x, 1, 0, 1, 2, 3);
        check.due("one more name", x.name(7, 7), 2);
        looks.left("FIRST is as told", x, 1, 0, 1, 2, 3, 4);
    }

    private void twelveRows() {
        LinearReach x = Build.alike(3, 0, 1);
        for (int i = 0; i < 12; i++) {
            check.due("row " + i, x.row(i % 10, 0, 1, 2, 5), i);
        }
        check.due("a thirteenth", x.row(0, 0, 1, 2, 5), Check.ROOM);
        check.due("row 11 is there", x.factor(11, 0, 3), 0);
        check.due("row 12 is not", x.factor(12, 0, 3), Check.OUTSIDE);
    }

    /** Each kind with just the names that it has, the rest being no names. */
    private void differentNames() {
        for (int kind = 0; kind < 10; kind++) {
            LinearReach x = Build.alike(3, 0, 1);
            int b = NAMED[kind] >= 2 ? 1 : -5;
            int c = NAMED[kind] >= 3 ? 0 : -5;
            check.due("kind " + kind, x.row(kind, NAMED[kind] >= 1 ? 2 : -5, b, c, 0), 0);
            for (int i = 0; i < NAMED[kind]; i++) {
                check.due("kind " + kind + " wants name " + i,
                        x.row(kind, i == 0 ? 3 : 2, i == 1 ? 3 : b, i == 2 ? 3 : c, 0), Check.OUTSIDE);
            }
        }
    }

    private void rights() {
        LinearReach x = Build.names(0, 0);
        check.due("-1000", x.row(0, 0, 0, 0, -1000), 0);
        check.due("1000", x.row(0, 0, 0, 0, 1000), 1);
        check.due("-1001", x.row(0, 0, 0, 0, -1001), Check.OUTSIDE);
        check.due("1001", x.row(0, 0, 0, 0, 1001), Check.OUTSIDE);
        LinearReach y = Build.alike(8, -32, 31);
        Build.sum(y, 0, -1000, 1, 1, 1, 1, 1, 1, 1, 1);
        check.due("8 times -32 is above -1000", y.run(0, 1), 0);
        LinearReach z = Build.alike(4, 31, 31);
        Build.sum(z, 0, 1000, 9, 9, 9, 9);
        check.due("36 times 31 is above 1000", z.plans(), 0);
        Build.factors(z, 0, 8, 8, 8, 8);
        check.due("32 times 31 is not", z.plans(), 1);
    }

    private void factors() {
        int[] kinds = {0, 1, 8, 9};
        for (int kind : kinds) {
            LinearReach x = Build.alike(8, 0, 1);
            x.row(kind, 7, 0, 0, 0);
            for (int name = 0; name < 7; name++) {
                check.due("kind " + kind + ": 0 at first", x.factor(0, name, -9), 0);
                check.due("kind " + kind + ": -10", x.factor(0, name, -10), Check.OUTSIDE);
                check.due("kind " + kind + ": -9", x.factor(0, name, 9), -9);
                check.due("kind " + kind + ": 10", x.factor(0, name, 10), Check.OUTSIDE);
                check.due("kind " + kind + ": 9", x.factor(0, name, name), 9);
            }
            for (int name = 0; name < 7; name++) {
                check.due("kind " + kind + ": each has its own", x.factor(0, name, 0), name);
            }
        }
    }

    private void factorOfA() {
        LinearReach x = Build.names(1, 1, 1, 1);
        for (int kind = 8; kind <= 9; kind++) {
            int row = x.row(kind, 0, 0, 0, 1);
            check.due("kind " + kind + ": of a", x.factor(row, 0, 1), Check.STATE);
            check.due("kind " + kind + ": of another", x.factor(row, 1, 1), 0);
        }
        // IF: 1 is at most 1; COUNT: one name is 1. With a's factor it would be 2 of them.
        check.due("a is not in the sum, and is not counted", x.plans(), 1);
        int row = x.row(0, 0, 0, 0, 1000);
        check.due("AT MOST has no a", x.factor(row, 0, 5), 0);
        check.due("AT MOST has no a", x.factor(row, 0, 5), 5);
    }

    private void sums() {
        LinearReach x = Build.names(-32, -32, 31, 31, 5, 5, 9, 9);
        Build.sum(x, 1, -288 - 279 + 10, 9, -9, 2, 0);
        check.due("9 * -32 - 9 * 31 + 2 * 5 + 0 * 9", x.plans(), 1);
        LinearReach y = Build.alike(8, -32, -32);
        Build.sum(y, 0, -1000, 9, 9, 9, 9, 9, 9, 9, 9);
        check.due("72 times -32 is at most -1000", y.plans(), 1);
        check.due("and takes nothing", y.run(0, 200), 1);
        Build.factors(y, 0, -9, -9, -9, -9, -9, -9, -9, -9);
        check.due("-72 times -32 is not", y.plans(), 0);
        check.due("and takes all of name 0", y.run(0, 200), 0);
    }

    /**
     * Whether a row holds with just these numbers; each of a, b, c is name 0 once, so that it is the
     * first one to be gone through, and loses its number if the row can't hold.
     */
    private void holds(int kind, int right, int a, int b, int c, boolean due) {
        int[] numbers = {a, b, c};
        for (int shift = 0; shift < 3; shift++) {
            LinearReach x = new LinearReach();
            for (int i = 0; i < 3; i++) {
                x.name(numbers[(i + shift) % 3], numbers[(i + shift) % 3]);
            }
            x.row(kind, (3 - shift) % 3, (4 - shift) % 3, (5 - shift) % 3, right);
            String row = "kind " + kind + " with " + a + ", " + b + ", " + c + ", right " + right;
            isOnePlan(row + ", shift " + shift, x, due, shift < NAMED[kind]);
        }
    }

    /** The first number is a's, where the kind has one; each name is name 0 once. */
    private void sumHolds(int kind, int right, int[] numbers, int[] factors, boolean due) {
        int count = numbers.length;
        for (int shift = 0; shift < count; shift++) {
            LinearReach x = new LinearReach();
            for (int i = 0; i < count; i++) {
                x.name(numbers[(i + shift) % count], numbers[(i + shift) % count]);
            }
            x.row(kind, (count - shift) % count, 0, 0, right);
            for (int i = 0; i < factors.length; i++) {
                x.factor(0, (i + count - shift) % count, factors[i]);
            }
            boolean isAbout = shift == 0 && NAMED[kind] == 1 || shift < factors.length && factors[shift] != 0;
            isOnePlan("kind " + kind + ", right " + right + ", shift " + shift, x, due, isAbout);
        }
    }

    /** Of names that have one number each: there is nothing to take, or the first look takes one. */
    private void isOnePlan(String row, LinearReach x, boolean due, boolean isAboutName0) {
        check.due(row + ": plans()", x.plans(), due ? 1 : 0);
        check.due(row + ": run(0, 200)", x.run(0, 200), due ? 1 : 0);
        check.due(row + ": steps()", x.steps(), due ? 0 : 1);
        check.due(row + ": size(0)", x.size(0), due || !isAboutName0 ? 1 : 0);
    }

    private void atMost() {
        int[] numbers = {3, 4, 7};
        int[] factors = {2, -1, 0};
        sumHolds(0, 1, numbers, factors, false);
        sumHolds(0, 2, numbers, factors, true);
        sumHolds(0, 3, numbers, factors, true);
        sumHolds(0, -2, numbers, factors, false);
    }

    private void just() {
        int[] numbers = {3, 4, 7};
        int[] factors = {2, -1, 0};
        sumHolds(1, 1, numbers, factors, false);
        sumHolds(1, 2, numbers, factors, true);
        sumHolds(1, 3, numbers, factors, false);
        sumHolds(1, -2, numbers, factors, false);
    }

    private void product() {
        holds(2, 0, 6, 2, 3, true);
        holds(2, 9, 6, -2, -3, true);
        holds(2, 0, -6, 2, -3, true);
        holds(2, 0, 5, 2, 3, false);
        holds(2, 0, 0, 0, 31, true);
        holds(2, 0, 0, 31, 0, true);
        holds(2, 0, 1, 0, 31, false);
        holds(2, 0, 1, 31, 0, false);
        holds(2, 0, -32, -32, 1, true);
        holds(2, 0, -32, 2, 16, false);
        holds(2, 0, 0, -32, -32, false);
    }

    private void quotientBy0() {
        for (int a = -32; a <= 31; a++) {
            holds(3, 0, a, 5, 0, false);
            holds(3, 0, a, 0, 0, false);
        }
        LinearReach x = Build.names(-32, 31, -32, 31, -32, 31);
        x.row(3, 0, 1, 2, 0);
        x.run(0, 200);
        check.due("0 is taken of c", x.has(2, 0), 0);
        check.due("1 is not", x.has(2, 1), 1);
        check.due("0 of b is not", x.has(1, 0), 1);
    }

    private void quotient() {
        holds(3, 0, 2, 5, 2, true);
        holds(3, 0, -3, -5, 2, true);
        holds(3, 0, -2, -5, 2, false);
        holds(3, 0, -3, 5, -2, true);
        holds(3, 0, -2, 5, -2, false);
        holds(3, 0, 2, -5, -2, true);
        holds(3, 0, 3, -5, -2, false);
        holds(3, 0, -2, -4, 2, true);
        holds(3, 0, 0, 0, -7, true);
        holds(3, 0, -1, -1, 31, true);
        holds(3, 0, 0, -1, 31, false);
        holds(3, 0, 31, -31, -1, true);
        holds(3, 0, -32, -32, -1, false);
        holds(3, 0, -32, -32, 1, true);
    }

    private void amount() {
        holds(4, 0, 5, -5, 0, true);
        holds(4, 0, 5, 5, 0, true);
        holds(4, 0, -5, -5, 0, false);
        holds(4, 0, -5, 5, 0, false);
        holds(4, 0, 0, 0, 0, true);
        holds(4, 0, 31, -31, 0, true);
        holds(4, 0, 31, -32, 0, false);
        holds(4, 0, -32, -32, 0, false);
    }

    private void greatest() {
        holds(5, 0, 4, 4, 2, true);
        holds(5, 0, 4, 2, 4, true);
        holds(5, 0, 4, 4, 4, true);
        holds(5, 0, 2, 2, 4, false);
        holds(5, 0, 5, 4, 4, false);
        holds(5, 0, -2, -2, -32, true);
        holds(5, 0, 31, -32, 31, true);
    }

    private void least() {
        holds(6, 0, 2, 4, 2, true);
        holds(6, 0, 2, 2, 4, true);
        holds(6, 0, 4, 4, 4, true);
        holds(6, 0, 4, 2, 4, false);
        holds(6, 0, 3, 4, 4, false);
        holds(6, 0, -32, -2, -32, true);
        holds(6, 0, 31, -32, 31, false);
    }

    private void unlike() {
        holds(7, 2, 5, 3, 0, false);
        holds(7, 1, 5, 3, 0, true);
        holds(7, -2, 5, 3, 0, true);
        holds(7, -2, 3, 5, 0, false);
        holds(7, 0, 3, 3, 0, false);
        holds(7, 63, 31, -32, 0, false);
        holds(7, -63, -32, 31, 0, false);
        holds(7, 1, -32, 31, 0, true);
        holds(7, 1000, 31, -32, 0, true);
        holds(7, -1000, -32, 31, 0, true);
    }

    private void ifTrue() {
        int[] factors = {0, 2, -1};
        sumHolds(8, 3, new int[] {1, 3, 4}, factors, true);
        sumHolds(8, 2, new int[] {1, 3, 4}, factors, true);
        sumHolds(8, 1, new int[] {1, 3, 4}, factors, false);
        sumHolds(8, 1, new int[] {0, 3, 4}, factors, true);
        sumHolds(8, 1, new int[] {2, 3, 4}, factors, true);
        sumHolds(8, 1, new int[] {-1, 3, 4}, factors, true);
        sumHolds(8, 0, new int[] {1}, new int[0], true);
        sumHolds(8, -1, new int[] {1}, new int[0], false);
        sumHolds(8, -1, new int[] {0}, new int[0], true);
    }

    private void count() {
        int[] factors = {0, 1, -9, 0, 9};
        sumHolds(9, 4, new int[] {2, 4, 4, 4, 5}, factors, true);
        sumHolds(9, 4, new int[] {3, 4, 4, 4, 5}, factors, false);
        sumHolds(9, 4, new int[] {1, 4, 4, 4, 5}, factors, false);
        sumHolds(9, 4, new int[] {3, 4, 4, 5, 4}, factors, true);
        sumHolds(9, 4, new int[] {0, 5, 3, 4, -4}, factors, true);
        sumHolds(9, 1000, new int[] {0, 5, 3, 4, -4}, factors, true);
        sumHolds(9, 1, new int[] {1}, new int[0], false);
        sumHolds(9, 0, new int[] {0}, new int[0], true);
        sumHolds(9, -32, new int[] {7, -32, -32, -32, -32, -32, -32, -32}, new int[] {0, 1, 1, 1, 1, 1, 1, 1}, true);
    }

    /** A row that can't hold takes the numbers of what it is about, and of nothing else. */
    private void about() {
        LinearReach x = Build.names(0, 3, -5, -1, 0, 5);
        x.row(4, 1, 2, 0, 0);
        check.due("AMOUNT: run", x.run(0, 200), 0);
        check.due("AMOUNT is not about its c", x.size(0), 4);
        check.due("AMOUNT is about its a", x.size(1), 0);
        LinearReach y = Build.names(0, 3, 0, 3, 0, 3);
        Build.sum(y, 0, -1000, 5, 7);
        y.factor(0, 0, 0);
        check.due("AT MOST: run", y.run(0, 200), 0);
        check.due("a factor that is 0 again", y.size(0), 4);
        check.due("a factor that is not 0", y.size(1), 0);
        y.factor(0, 1, 0);
        check.due("about nothing: run", y.run(0, 200), 1);
        check.due("about nothing: steps", y.steps(), 0);
        LinearReach z = Build.names(0, 3, 1, 1);
        Build.tied(z, 8, 1, -1);
        check.due("IF without factors: run", z.run(0, 200), 0);
        check.due("it is about its a", z.size(1), 0);
        check.due("and about no other", z.size(0), 4);
    }

    private void plan() {
        LinearReach x = Build.names(0, 3, 0, 3);
        check.due("without rows", x.plans(), 16);
        x.leave(0, 1);
        check.due("without 1", x.plans(), 12);
        x.row(7, 0, 1, 0, 0);
        check.due("unlike ones", x.plans(), 9);
        Build.sum(x, 0, 1, 0, 1);
        check.due("and 1 is at most 1", x.plans(), 5);
        LinearReach many = Build.alike(3, 0, 31);
        Build.sum(many, 0, 1, 1, 1, 1);
        check.due("32 times 32 times 32", many.plans(), Check.NONE);
        many.run(0, 1);
        check.due("of the SETS now, 2 times 2 times 2", many.plans(), 4);
        LinearReach clashed = Build.clashing();
        check.due("no number is at most -1", clashed.plans(), 0);
        clashed.run(0, 200);
        check.due("nor is there one now", clashed.plans(), 0);
    }
}
