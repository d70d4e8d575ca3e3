import java.util.Random;

/**
 * Promises 7 to 17: numbers are chosen first, then names around them and rows that hold with them. So
 * none of these numbers may ever be taken, rounds go deep, and reasons have many parts; all that can be
 * seen is held against PlainReach, too.
 */
public final class KnownPlanTest {
    private static final int RUNS = 400;
    private static final int TRIES = 3000;
    /** Below 512 by more than the calls that are made at one go. */
    private static final int CALLS = 512 - 90;
    private static final int[] WIDTHS = {4, 12, 32};
    private static int manyParts = 0;

    private final Check check;
    private final Random random;
    private final LinearReach x = new LinearReach();
    private final PlainReach y = new PlainReach();
    private final String title;
    private final int width;
    private final int[] plan;
    private int calls = 0;

    private KnownPlanTest(Check check, int seed) {
        this.check = check;
        this.random = new Random(seed);
        this.title = "seed " + seed;
        this.width = WIDTHS[seed % WIDTHS.length];
        this.plan = new int[between(3, 8)];
    }

    private int between(int low, int high) {
        return low + random.nextInt(high - low + 1);
    }

    private void due(String call, long got, long want) {
        calls++;
        check.due(title + " call " + calls + ": " + call, got, want);
    }

    /** Half of the later numbers come of two others, so that there are rows of kinds 2 to 6. */
    private void choosePlan() {
        for (int i = 0; i < plan.length; i++) {
            int one = plan[random.nextInt(i + 1)];
            int other = plan[random.nextInt(i + 1)];
            int made = switch (random.nextInt(10)) {
                case 0 -> one * other;
                case 1 -> other == 0 ? 0 : Math.floorDiv(one, other);
                case 2 -> Math.abs(one);
                case 3 -> Math.max(one, other);
                case 4 -> Math.min(one, other);
                default -> between(-width, width - 1);
            };
            plan[i] = made < -32 || made > 31 ? 1 : made;
        }
    }

    private void addNames() {
        for (int i = 0; i < plan.length; i++) {
            int low = Math.max(-32, plan[i] - random.nextInt(2 * width));
            int high = Math.min(31, plan[i] + random.nextInt(2 * width));
            due("name(" + low + ", " + high + ")", x.name(low, high), y.name(low, high));
        }
    }

    private void leaveSome() {
        for (int i = random.nextInt(6); i > 0; i--) {
            int name = random.nextInt(plan.length);
            int number = between(-32, 31);
            if (number != plan[name]) {
                due("leave(" + name + ", " + number + ")", x.leave(name, number), y.leave(name, number));
            }
        }
    }

    private void addRows() {
        int rows = 0;
        for (int i = 0; i < TRIES && rows < 12; i++) {
            rows += addRow(rows) ? 1 : 0;
        }
    }

    /** One more row, if what is chosen for it holds. */
    private boolean addRow(int row) {
        int kind = random.nextInt(10);
        int a = random.nextInt(plan.length);
        int b = random.nextInt(plan.length);
        int c = random.nextInt(plan.length);
        int[] factors = kind < 2 || kind > 7 ? someFactors(kind < 2 ? -1 : a) : new int[plan.length];
        int right = kind == 9 ? plan[b] : kind == 7 ? between(-width, width) : sumOf(factors);
        if (kind == 0 || kind == 8) {
            right += between(-2, 9);
        }
        int given = kind == 9 ? countOf(factors, right) : sumOf(factors);
        if (a == b || a == c || b == c || right < -1000 || right > 1000
                || !PlainReach.holds(kind, new int[] {plan[a], plan[b], plan[c]}, given, right)) {
            return false;
        }
        due("row(" + kind + ", " + a + ", " + b + ", " + c + ", " + right + ")",
                x.row(kind, a, b, c, right), y.row(kind, a, b, c, right));
        for (int name = 0; name < plan.length; name++) {
            if (factors[name] != 0) {
                due("factor(" + row + ", " + name + ", " + factors[name] + ")",
                        x.factor(row, name, factors[name]), y.factor(row, name, factors[name]));
            }
        }
        return true;
    }

    private int[] someFactors(int without) {
        int[] factors = new int[plan.length];
        for (int i = between(1, plan.length); i > 0; i--) {
            int name = random.nextInt(plan.length);
            factors[name] = name == without ? 0 : random.nextInt(3) == 0 ? between(-9, 9) : 1 - 2 * random.nextInt(2);
        }
        return factors;
    }

    private int sumOf(int[] factors) {
        int sum = 0;
        for (int name = 0; name < plan.length; name++) {
            sum += factors[name] * plan[name];
        }
        return sum;
    }

    private int countOf(int[] factors, int right) {
        int count = 0;
        for (int name = 0; name < plan.length; name++) {
            count += factors[name] != 0 && plan[name] == right ? 1 : 0;
        }
        return count;
    }

    private void runSome() {
        int order = random.nextInt(2);
        int rounds = random.nextInt(3) == 0 ? 200 : between(1, 2);
        due("run(" + order + ", " + rounds + ")", x.run(order, rounds), y.run(order, rounds));
        due("steps()", x.steps(), y.steps());
        due("clash()", x.clash(), Check.NONE);
        int plans = x.plans();
        due("plans()", plans, y.plans());
        check.isTrue(title + ": the plan is one of " + plans, plans == Check.NONE || plans >= 1);
        for (int name = 0; name < plan.length; name++) {
            due("has(" + name + ", " + plan[name] + ")", x.has(name, plan[name]), 1);
            due("size(" + name + ")", x.size(name), y.size(name));
            due("end(" + name + ", false)", x.end(name, false), y.end(name, false));
            due("end(" + name + ", true)", x.end(name, true), y.end(name, true));
        }
    }

    private void lookAtStep(int i) {
        for (int what = 0; what < 4; what++) {
            due("step(" + i + ", " + what + ")", x.step(i, what), y.step(i, what));
        }
        int parts = y.reason(i);
        manyParts += parts > 2 ? 1 : 0;
        due("reason(" + i + ")", x.reason(i), parts);
        for (int k = 0; k < parts; k++) {
            due("part(" + i + ", " + k + ")", x.part(i, k), y.part(i, k));
            due("told(" + i + ", " + k + ")", x.told(i, k), y.told(i, k));
        }
    }

    private void go() {
        choosePlan();
        addNames();
        leaveSome();
        addRows();
        while (calls < CALLS && check.allRight()) {
            runSome();
            for (int i = Math.min(9, y.steps()); i > 0 && calls < CALLS; i--) {
                lookAtStep(random.nextInt(y.steps()));
            }
        }
    }

    public static void main(String[] args) {
        Check check = new Check();
        for (int seed = 1; seed <= RUNS; seed++) {
            new KnownPlanTest(check, seed).go();
        }
        check.isTrue("many steps with more than two parts: " + manyParts, manyParts > 100);
        check.finish();
    }
}
