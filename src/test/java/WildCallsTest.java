import java.util.Random;

/** Promises 1 to 17, and rule 7 of LANGUAGE.md: any arguments in any state. */
public final class WildCallsTest {
    private static final int RUNS = 1100;
    /** One of them is up to three calls of the object, so that it stays below 512 of those. */
    private static final int CALLS = 400;
    private static final int FREE_CALLS = 200;
    private static final int[] WILD = {Integer.MIN_VALUE, Integer.MIN_VALUE + 1, -1001, -1000, -65, -64, -33, -32,
        -10, -9, -1, 0, 1, 2, 3, 4, 5, 7, 8, 9, 10, 11, 12, 15, 16, 31, 32, 63, 64, 199, 200, 201, 511, 512, 513,
        1000, 1001, Integer.MAX_VALUE - 1, Integer.MAX_VALUE};

    private static int pick(Random random) {
        return random.nextInt(3) > 0 ? random.nextInt(9) - 1 : WILD[random.nextInt(WILD.length)];
    }

    private static int nameOf(Random random) {
        return random.nextInt(10) > 0 ? random.nextInt(4) : pick(random);
    }

    private static void call(Check check, Random random, LinearReach x, PlainReach y) {
        int p = pick(random);
        int q = pick(random);
        int n = nameOf(random);
        int o = nameOf(random);
        int kind = random.nextInt(8) > 0 ? random.nextInt(10) : pick(random);
        switch (random.nextInt(16)) {
            case 0 -> check.due("name " + p + " " + q, x.name(p, q), y.name(p, q));
            case 1 -> check.due("leave " + n + " " + p, x.leave(n, p), y.leave(n, p));
            case 2 -> check.due("row " + kind + " " + n + " " + o + " " + q + " " + p,
                    x.row(kind, n, o, q, p), y.row(kind, n, o, q, p));
            case 3, 4 -> check.due("factor " + p + " " + n + " " + q, x.factor(p, n, q), y.factor(p, n, q));
            case 5 -> {
                if (random.nextInt(12) == 0) {
                    check.due("clear", x.clear(), y.clear());
                }
            }
            case 6, 7 -> check.due("run " + (p & 1) + " " + q, x.run(p & 1, q), y.run(p & 1, q));
            case 8 -> check.due("run " + p + " " + q, x.run(p, q), y.run(p, q));
            case 9 -> check.due("clash", x.clash(), y.clash());
            case 10 -> check.due("has " + n + " " + p, x.has(n, p), y.has(n, p));
            case 11 -> check.due("end " + p, x.end(p, (q & 1) == 1), y.end(p, (q & 1) == 1));
            case 12 -> check.due("size, steps " + p, x.size(p) * 1000 + x.steps(), y.size(p) * 1000 + y.steps());
            case 13 -> check.due("step " + p + " " + q, x.step(p, q), y.step(p, q));
            case 14 -> {
                check.due("reason " + p, x.reason(p), y.reason(p));
                check.due("part " + p + " " + q, x.part(p, q), y.part(p, q));
                check.due("told " + p + " " + q, x.told(p, q), y.told(p, q));
            }
            default -> check.due("plans", x.plans(), y.plans());
        }
    }

    public static void main(String[] args) {
        Check check = new Check();
        for (int seed = 1; seed <= RUNS; seed++) {
            Random random = new Random(seed);
            LinearReach x = new LinearReach();
            PlainReach y = new PlainReach();
            for (int i = 0; i < CALLS && check.allRight(); i++) {
                call(check, random, x, y);
            }
            // What these answer is free, but they must not throw, and must end.
            Check free = new Check();
            for (int i = 0; i < FREE_CALLS; i++) {
                call(free, random, x, y);
            }
        }
        check.finish();
    }
}
