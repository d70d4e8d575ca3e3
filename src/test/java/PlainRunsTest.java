import java.util.Random;

/** Promises 1 to 17: long runs of calls, with seeds that are told, held against PlainReach. */
public final class PlainRunsTest {
    /** Below 512 by more than the calls that are made at one go. */
    private static final int CALLS = 512 - 40;
    private static final int RUNS = 1500;

    private final Check check;
    private final Random random;
    private final String title;
    private final boolean wide;
    private final LinearReach x = new LinearReach();
    private final PlainReach y = new PlainReach();
    private int calls = 0;
    private int names = 0;
    private int rows = 0;

    private PlainRunsTest(Check check, int seed, boolean wide) {
        this.check = check;
        this.random = new Random(seed);
        this.wide = wide;
        this.title = "seed " + seed + (wide ? " wide" : " narrow");
    }

    private void due(String call, long got, long want) {
        calls++;
        check.due(title + " call " + calls + ": " + call, got, want);
    }

    private int between(int low, int high) {
        return low + random.nextInt(high - low + 1);
    }

    /** Mostly one of so many, now and then one beside them. */
    private int index(int count) {
        int what = random.nextInt(40);
        return what == 0 ? -1 : what == 1 ? count : what == 2 ? Integer.MAX_VALUE : random.nextInt(Math.max(1, count));
    }

    private void addName() {
        int low;
        int high;
        if (random.nextInt(25) == 0) {
            low = between(-34, 0);
            high = between(-36, low);
        } else if (wide) {
            low = random.nextInt(3) == 0 ? between(-8, 2) : between(-32, 0);
            high = random.nextInt(3) == 0 ? between(3, 8) : between(1, 31);
        } else {
            low = between(-4, 3);
            high = low + between(0, 3);
        }
        due("name(" + low + ", " + high + ")", x.name(low, high), y.name(low, high));
        names = Math.min(8, names + 1);
    }

    private void addRow() {
        int kind = between(0, 9);
        if (random.nextInt(40) == 0) {
            kind = between(-1, 10);
        }
        int a = index(names);
        int b = index(names);
        int c = index(names);
        int right = random.nextInt(30) == 0 ? between(-1100, 1100) : wide ? between(-60, 60) : between(-6, 9);
        if (kind == 9) {
            right = between(-4, 4);
        }
        String call = "row(" + kind + ", " + a + ", " + b + ", " + c + ", " + right + ")";
        int got = x.row(kind, a, b, c, right);
        due(call, got, y.row(kind, a, b, c, right));
        if (got >= 0) {
            rows = got + 1;
            for (int i = 0; i < 3 && (kind < 2 || kind > 7); i++) {
                setFactor(got);
            }
        }
    }

    private void setFactor(int row) {
        int name = index(names);
        int factor = random.nextInt(wide ? 2 : 20) == 0 ? between(-11, 11) : between(-3, 3);
        due("factor(" + row + ", " + name + ", " + factor + ")",
                x.factor(row, name, factor), y.factor(row, name, factor));
    }

    private void leaveOne() {
        int name = index(names);
        int number = random.nextInt(30) == 0 ? between(-40, 40) : wide ? between(-32, 31) : between(-4, 6);
        due("leave(" + name + ", " + number + ")", x.leave(name, number), y.leave(name, number));
    }

    private void runSome() {
        int order = random.nextInt(30) == 0 ? between(-1, 3) : random.nextInt(2);
        int rounds = random.nextInt(30) == 0 ? between(-1, 250) : random.nextBoolean() ? 200 : between(1, 3);
        due("run(" + order + ", " + rounds + ")", x.run(order, rounds), y.run(order, rounds));
        due("clash()", x.clash(), y.clash());
        due("steps()", x.steps(), y.steps());
        due("plans()", x.plans(), y.plans());
    }

    private void look() {
        int name = index(names);
        int number = between(-34, 34);
        int i = index(y.steps());
        int what = between(-1, 4);
        int k = between(-1, 2);
        due("has(" + name + ", " + number + ")", x.has(name, number), y.has(name, number));
        due("end(" + name + ", false)", x.end(name, false), y.end(name, false));
        due("end(" + name + ", true)", x.end(name, true), y.end(name, true));
        due("size(" + name + ")", x.size(name), y.size(name));
        due("step(" + i + ", " + what + ")", x.step(i, what), y.step(i, what));
        due("part(" + i + ", " + k + ")", x.part(i, k), y.part(i, k));
        due("told(" + i + ", " + k + ")", x.told(i, k), y.told(i, k));
    }

    private void lookAtAllSteps() {
        int count = y.steps();
        for (int i = 0; i < count && calls < CALLS; i++) {
            for (int what = 0; what < 4; what++) {
                due("step(" + i + ", " + what + ")", x.step(i, what), y.step(i, what));
            }
            int parts = y.reason(i);
            due("reason(" + i + ")", x.reason(i), parts);
            for (int k = 0; k <= parts; k++) {
                due("part(" + i + ", " + k + ")", x.part(i, k), y.part(i, k));
                due("told(" + i + ", " + k + ")", x.told(i, k), y.told(i, k));
            }
        }
    }

    private void go() {
        int namesWanted = between(3, wide ? 6 : 8);
        for (int i = 0; i < namesWanted; i++) {
            addName();
        }
        while (calls < CALLS && check.allRight()) {
            switch (random.nextInt(14)) {
                case 0:
                    addName();
                    break;
                case 1, 2, 3:
                    addRow();
                    break;
                case 4, 5:
                    setFactor(index(rows));
                    break;
                case 6, 7:
                    leaveOne();
                    break;
                case 8, 9, 10:
                    runSome();
                    break;
                case 11:
                    lookAtAllSteps();
                    break;
                case 12:
                    look();
                    break;
                default:
                    if (random.nextInt(6) == 0) {
                        due("clear()", x.clear(), y.clear());
                        names = 0;
                        rows = 0;
                        for (int i = 0; i < namesWanted; i++) {
                            addName();
                        }
                    }
                    break;
            }
        }
    }

    public static void main(String[] args) {
        Check check = new Check();
        for (int seed = 1; seed <= RUNS; seed++) {
            new PlainRunsTest(check, seed, false).go();
            if (seed % 10 == 0) {
                new PlainRunsTest(check, seed, true).go();
            }
        }
        check.finish();
    }
}
