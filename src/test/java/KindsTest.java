import java.util.Arrays;

/** Promises 7 and 9: what each kind of row leaves of the names, worked out by hand. */
public final class KindsTest {
    private static final Check check = new Check();

    private static LinearReach names(int... bounds) {
        LinearReach x = new LinearReach();
        for (int i = 0; i < bounds.length; i += 2) {
            x.name(bounds[i], bounds[i + 1]);
        }
        return x;
    }

    private static void factors(LinearReach x, int row, int... factors) {
        for (int name = 0; name < factors.length; name++) {
            if (factors[name] != 0) {
                x.factor(row, name, factors[name]);
            }
        }
    }

    private static void left(String what, LinearReach x, int name, int... numbers) {
        for (int v = -32; v <= 31; v++) {
            int number = v;
            boolean due = Arrays.stream(numbers).anyMatch(one -> one == number);
            check.due(what + ": has(" + name + ", " + v + ")", x.has(name, v), due ? 1 : 0);
        }
    }

    private static void atMost() {
        LinearReach x = names(0, 9, -3, 3, 5, 5);
        x.row(0, 0, 0, 0, 7);
        factors(x, 0, 2, -3, 1);
        // 2a - 3b + 5 is at most 7: with b = 3 a is at most 5; with a = 0 b is at least 0 (-2/3 rounded up).
        check.due("AT MOST: run", x.run(0, 200), 2);
        left("AT MOST a", x, 0, 0, 1, 2, 3, 4, 5);
        left("AT MOST b", x, 1, 0, 1, 2, 3);
        left("AT MOST c", x, 2, 5);
    }

    private static void just() {
        LinearReach x = names(0, 9, 0, 9);
        x.row(1, 0, 0, 0, 12);
        factors(x, 0, 2, 3);
        // 2a + 3b is 12: not with a = 1, but then it can be at most 12, and at least 12, too.
        check.due("JUST: run", x.run(0, 200), 2);
        left("JUST a", x, 0, 0, 1, 2, 3, 4, 5, 6);
        left("JUST b", x, 1, 0, 1, 2, 3, 4);
        check.due("JUST: plans", x.plans(), 3);
        LinearReach odd = names(0, 5, 0, 5);
        odd.row(1, 0, 0, 0, 7);
        factors(odd, 0, 2, 2);
        check.due("JUST, round by round to a clash", odd.run(0, 200), 0);
        LinearReach y = names(0, 9, 0, 2);
        y.row(1, 0, 0, 0, 4);
        factors(y, 0, 1, -1);
        y.run(0, 200);
        left("JUST a", y, 0, 4, 5, 6);
        left("JUST b", y, 1, 0, 1, 2);
    }

    private static void product() {
        LinearReach x = names(-32, 31, 2, 3, -2, 4);
        x.row(2, 0, 1, 2, 0);
        x.run(0, 200);
        left("PRODUCT a", x, 0, -6, -4, -3, -2, 0, 2, 3, 4, 6, 8, 9, 12);
        LinearReach y = names(7, 8, -32, 31, -32, 31);
        y.row(2, 0, 1, 2, 0);
        y.run(0, 1);
        left("PRODUCT b", y, 1, -8, -7, -4, -2, -1, 1, 2, 4, 7, 8);
        left("PRODUCT c", y, 2, -8, -7, -4, -2, -1, 1, 2, 4, 7, 8);
        LinearReach z = names(-1, 1, -5, 5, 3, 4);
        z.row(2, 0, 1, 2, 0);
        z.run(0, 200);
        left("PRODUCT with 0", z, 1, 0);
        left("PRODUCT with 0", z, 0, 0);
    }

    private static void quotient() {
        LinearReach x = names(-32, 31, -7, -5, -1, 2);
        x.row(3, 0, 1, 2, 0);
        x.run(0, 200);
        // By -1: 7, 6, 5; by 1: -7, -6, -5; by 2, rounded down: -4, -3, -3.
        left("QUOTIENT a", x, 0, -7, -6, -5, -4, -3, 5, 6, 7);
        // 0 is taken of c though it is no bound.
        left("QUOTIENT c", x, 2, -1, 1, 2);
        LinearReach y = names(3, 3, -32, 31, -4, -4);
        y.row(3, 0, 1, 2, 0);
        y.run(0, 200);
        // b divided by -4 is at least 3 and below 4.
        left("QUOTIENT b", y, 1, -15, -14, -13, -12);
        LinearReach z = names(0, 31, 0, 31, 0, 0);
        z.row(3, 0, 1, 2, 0);
        check.due("QUOTIENT by 0 alone", z.run(0, 200), 0);
        check.due("QUOTIENT by 0 alone: the clash is of a", z.size(0), 0);
        LinearReach w = names(0, 0, -32, -32, -32, 31);
        w.row(3, 0, 1, 2, 0);
        check.due("QUOTIENT of -32 is not 0", w.run(0, 200), 0);
        LinearReach v = names(31, 31, -32, -32, -32, 31);
        v.row(3, 0, 1, 2, 0);
        check.due("QUOTIENT of -32 is 32, 16, ..", v.run(0, 200), 0);
    }

    private static void amount() {
        LinearReach x = names(-32, 31, -32, 3);
        x.row(4, 0, 1, 0, 0);
        x.run(0, 200);
        check.due("AMOUNT: least a", x.end(0, false), 0);
        check.due("AMOUNT: most a", x.end(0, true), 31);
        check.due("AMOUNT: -32 is too far", x.has(1, -32), 0);
        check.due("AMOUNT: -31 is not", x.has(1, -31), 1);
        LinearReach y = names(2, 3, -9, 9);
        y.row(4, 0, 1, 0, 0);
        y.run(0, 200);
        left("AMOUNT b", y, 1, -3, -2, 2, 3);
        LinearReach z = names(0, 9, -4, -2);
        z.row(4, 0, 1, 0, 0);
        z.run(0, 200);
        left("AMOUNT a", z, 0, 2, 3, 4);
    }

    private static void greatestAndLeast() {
        LinearReach x = names(-9, 9, 1, 4, 3, 5);
        x.row(5, 0, 1, 2, 0);
        x.run(0, 200);
        left("GREATEST a", x, 0, 3, 4, 5);
        left("GREATEST b", x, 1, 1, 2, 3, 4);
        LinearReach y = names(6, 7, 0, 9, 0, 5);
        y.row(5, 0, 1, 2, 0);
        y.run(0, 200);
        left("GREATEST b", y, 1, 6, 7);
        left("GREATEST c", y, 2, 0, 1, 2, 3, 4, 5);
        LinearReach z = names(-9, 9, 1, 4, 3, 5);
        z.row(6, 0, 1, 2, 0);
        z.run(0, 200);
        left("LEAST a", z, 0, 1, 2, 3, 4);
        left("LEAST c", z, 2, 3, 4, 5);
        LinearReach w = names(2, 3, 0, 9, 5, 9);
        w.row(6, 0, 1, 2, 0);
        w.run(0, 200);
        left("LEAST b", w, 1, 2, 3);
        left("LEAST c", w, 2, 5, 6, 7, 8, 9);
    }

    private static void unlike() {
        LinearReach x = names(0, 4, 5, 5);
        x.row(7, 0, 1, 0, -3);
        check.due("UNLIKE: run", x.run(0, 200), 2);
        left("UNLIKE a", x, 0, 0, 1, 3, 4);
        LinearReach y = names(2, 2, 3, 7);
        y.row(7, 0, 1, 0, -3);
        y.run(0, 200);
        left("UNLIKE b", y, 1, 3, 4, 6, 7);
        LinearReach z = names(0, 1, 0, 1);
        z.row(7, 0, 1, 0, 0);
        check.due("UNLIKE takes nothing while both are open", z.run(0, 200), 1);
        check.due("UNLIKE: plans", z.plans(), 2);
    }

    private static void ifTrue() {
        LinearReach x = names(-1, 2, 3, 9);
        x.row(8, 0, 0, 0, 2);
        factors(x, 0, 0, 1);
        check.due("IF: run", x.run(0, 200), 2);
        left("IF: the sum can't be, so a is not 1", x, 0, -1, 0, 2);
        left("IF b", x, 1, 3, 4, 5, 6, 7, 8, 9);
        LinearReach y = names(1, 1, 0, 5, 1, 3);
        y.row(8, 0, 0, 0, 3);
        factors(y, 0, 0, 1, 1);
        y.run(0, 200);
        left("IF b", y, 1, 0, 1, 2);
        left("IF c", y, 2, 1, 2, 3);
        // 1 was left out, but lies between LEAST and MOST: it is possible for the others, not for a.
        LinearReach z = names(0, 2, 0, 9);
        z.row(8, 0, 0, 0, 3);
        factors(z, 0, 0, 1);
        z.leave(0, 1);
        check.due("IF with a gap: run", z.run(0, 200), 1);
        LinearReach w = names(0, 1);
        w.row(8, 0, 0, 0, -1);
        w.run(0, 200);
        left("IF without a sum", w, 0, 0);
    }

    private static void count() {
        LinearReach x = names(-5, 5, 2, 2, 0, 4, 3, 9);
        x.row(9, 0, 0, 0, 2);
        factors(x, 0, 0, 1, -9, 4);
        x.run(0, 200);
        left("COUNT a", x, 0, 1, 2);
        LinearReach y = names(2, 2, 0, 2, 0, 2);
        y.row(9, 0, 0, 0, 1);
        factors(y, 0, 0, 1, 1);
        y.run(0, 200);
        left("COUNT b", y, 1, 1);
        left("COUNT c", y, 2, 1);
        LinearReach z = names(1, 1, 1, 1, 0, 2);
        z.row(9, 0, 0, 0, 1);
        factors(z, 0, 0, 1, 1);
        z.run(0, 200);
        left("COUNT: there is one already", z, 2, 0, 2);
        LinearReach w = names(0, 3, 0, 9);
        w.row(9, 0, 0, 0, 1000);
        factors(w, 0, 0, 1);
        w.run(0, 200);
        left("COUNT of what no name can be", w, 0, 0);
    }

    /** A row that is about no name takes nothing, though it can't hold. */
    private static void aboutNothing() {
        LinearReach x = names(0, 3);
        x.row(0, 0, 0, 0, -1);
        x.row(1, 0, 0, 0, 5);
        check.due("about nothing: run", x.run(0, 200), 1);
        check.due("about nothing: steps", x.steps(), 0);
        check.due("about nothing: plans", x.plans(), 0);
        x.factor(0, 0, 1);
        x.factor(0, 0, 0);
        check.due("a factor that is 0 again", x.run(0, 200), 1);
    }

    public static void main(String[] args) {
        atMost();
        just();
        product();
        quotient();
        amount();
        greatestAndLeast();
        unlike();
        ifTrue();
        count();
        aboutNothing();
        check.finish();
    }
}
