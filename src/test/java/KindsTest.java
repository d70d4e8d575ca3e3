/** Promises 7 and 9: what each kind of row leaves of the names, worked out by hand. */
public final class KindsTest {
    private static final Check check = new Check();
    private static final Looks looks = new Looks(check);

    private static void atMost() {
        LinearReach x = Build.names(0, 9, -3, 3, 5, 5);
        x.row(0, 0, 0, 0, 7);
        Build.factors(x, 0, 2, -3, 1);
        // 2a - 3b + 5 is at most 7: with b = 3 a is at most 5; with a = 0 b is at least 0 (-2/3 rounded up).
        check.due("AT MOST: run", x.run(0, 200), 2);
        looks.left("AT MOST a", x, 0, 0, 1, 2, 3, 4, 5);
        looks.left("AT MOST b", x, 1, 0, 1, 2, 3);
        looks.left("AT MOST c", x, 2, 5);
    }

    private static void just() {
        LinearReach x = Build.names(0, 9, 0, 9);
        x.row(1, 0, 0, 0, 12);
        Build.factors(x, 0, 2, 3);
        // 2a + 3b is 12: not with a = 1, but then it can be at most 12, and at least 12, too.
        check.due("JUST: run", x.run(0, 200), 2);
        looks.left("JUST a", x, 0, 0, 1, 2, 3, 4, 5, 6);
        looks.left("JUST b", x, 1, 0, 1, 2, 3, 4);
        check.due("JUST: plans", x.plans(), 3);
        LinearReach odd = Build.names(0, 5, 0, 5);
        odd.row(1, 0, 0, 0, 7);
        Build.factors(odd, 0, 2, 2);
        check.due("JUST, round by round to a clash", odd.run(0, 200), 0);
        LinearReach y = Build.names(0, 9, 0, 2);
        y.row(1, 0, 0, 0, 4);
        Build.factors(y, 0, 1, -1);
        y.run(0, 200);
        looks.left("JUST a", y, 0, 4, 5, 6);
        looks.left("JUST b", y, 1, 0, 1, 2);
    }

    private static void product() {
        LinearReach x = Build.names(-32, 31, 2, 3, -2, 4);
        x.row(2, 0, 1, 2, 0);
        x.run(0, 200);
        looks.left("PRODUCT a", x, 0, -6, -4, -3, -2, 0, 2, 3, 4, 6, 8, 9, 12);
        LinearReach y = Build.names(7, 8, -32, 31, -32, 31);
        y.row(2, 0, 1, 2, 0);
        y.run(0, 1);
        looks.left("PRODUCT b", y, 1, -8, -7, -4, -2, -1, 1, 2, 4, 7, 8);
        looks.left("PRODUCT c", y, 2, -8, -7, -4, -2, -1, 1, 2, 4, 7, 8);
        LinearReach z = Build.names(-1, 1, -5, 5, 3, 4);
        z.row(2, 0, 1, 2, 0);
        z.run(0, 200);
        looks.left("PRODUCT with 0", z, 1, 0);
        looks.left("PRODUCT with 0", z, 0, 0);
    }

    private static void quotient() {
        LinearReach x = Build.names(-32, 31, -7, -5, -1, 2);
        x.row(3, 0, 1, 2, 0);
        x.run(0, 200);
        // By -1: 7, 6, 5; by 1: -7, -6, -5; by 2, rounded down: -4, -3, -3.
        looks.left("QUOTIENT a", x, 0, -7, -6, -5, -4, -3, 5, 6, 7);
        // 0 is taken of c though it is no bound.
        looks.left("QUOTIENT c", x, 2, -1, 1, 2);
        LinearReach y = Build.names(3, 3, -32, 31, -4, -4);
        y.row(3, 0, 1, 2, 0);
        y.run(0, 200);
        // b divided by -4 is at least 3 and below 4.
        looks.left("QUOTIENT b", y, 1, -15, -14, -13, -12);
        LinearReach z = Build.names(0, 31, 0, 31, 0, 0);
        z.row(3, 0, 1, 2, 0);
        check.due("QUOTIENT by 0 alone", z.run(0, 200), 0);
        check.due("QUOTIENT by 0 alone: the clash is of a", z.size(0), 0);
        LinearReach w = Build.names(0, 0, -32, -32, -32, 31);
        w.row(3, 0, 1, 2, 0);
        check.due("QUOTIENT of -32 is not 0", w.run(0, 200), 0);
        LinearReach v = Build.names(31, 31, -32, -32, -32, 31);
        v.row(3, 0, 1, 2, 0);
        check.due("QUOTIENT of -32 is 32, 16, ..", v.run(0, 200), 0);
    }

    private static void amount() {
        LinearReach x = Build.names(-32, 31, -32, 3);
        x.row(4, 0, 1, 0, 0);
        x.run(0, 200);
        check.due("AMOUNT: least a", x.end(0, false), 0);
        check.due("AMOUNT: most a", x.end(0, true), 31);
        check.due("AMOUNT: -32 is too far", x.has(1, -32), 0);
        check.due("AMOUNT: -31 is not", x.has(1, -31), 1);
        LinearReach y = Build.names(2, 3, -9, 9);
        y.row(4, 0, 1, 0, 0);
        y.run(0, 200);
        looks.left("AMOUNT b", y, 1, -3, -2, 2, 3);
        LinearReach z = Build.names(0, 9, -4, -2);
        z.row(4, 0, 1, 0, 0);
        z.run(0, 200);
        looks.left("AMOUNT a", z, 0, 2, 3, 4);
    }

    private static void greatestAndLeast() {
        LinearReach x = Build.names(-9, 9, 1, 4, 3, 5);
        x.row(5, 0, 1, 2, 0);
        x.run(0, 200);
        looks.left("GREATEST a", x, 0, 3, 4, 5);
        looks.left("GREATEST b", x, 1, 1, 2, 3, 4);
        LinearReach y = Build.names(6, 7, 0, 9, 0, 5);
        y.row(5, 0, 1, 2, 0);
        y.run(0, 200);
        looks.left("GREATEST b", y, 1, 6, 7);
        looks.left("GREATEST c", y, 2, 0, 1, 2, 3, 4, 5);
        LinearReach z = Build.names(-9, 9, 1, 4, 3, 5);
        z.row(6, 0, 1, 2, 0);
        z.run(0, 200);
        looks.left("LEAST a", z, 0, 1, 2, 3, 4);
        looks.left("LEAST c", z, 2, 3, 4, 5);
        LinearReach w = Build.names(2, 3, 0, 9, 5, 9);
        w.row(6, 0, 1, 2, 0);
        w.run(0, 200);
        looks.left("LEAST b", w, 1, 2, 3);
        looks.left("LEAST c", w, 2, 5, 6, 7, 8, 9);
    }

    private static void unlike() {
        LinearReach x = Build.names(0, 4, 5, 5);
        x.row(7, 0, 1, 0, -3);
        check.due("UNLIKE: run", x.run(0, 200), 2);
        looks.left("UNLIKE a", x, 0, 0, 1, 3, 4);
        LinearReach y = Build.names(2, 2, 3, 7);
        y.row(7, 0, 1, 0, -3);
        y.run(0, 200);
        looks.left("UNLIKE b", y, 1, 3, 4, 6, 7);
        LinearReach z = Build.names(0, 1, 0, 1);
        z.row(7, 0, 1, 0, 0);
        check.due("UNLIKE takes nothing while both are open", z.run(0, 200), 1);
        check.due("UNLIKE: plans", z.plans(), 2);
    }

    private static void ifTrue() {
        LinearReach x = Build.names(-1, 2, 3, 9);
        x.row(8, 0, 0, 0, 2);
        Build.factors(x, 0, 0, 1);
        check.due("IF: run", x.run(0, 200), 2);
        looks.left("IF: the sum can't be, so a is not 1", x, 0, -1, 0, 2);
        looks.left("IF b", x, 1, 3, 4, 5, 6, 7, 8, 9);
        LinearReach y = Build.names(1, 1, 0, 5, 1, 3);
        y.row(8, 0, 0, 0, 3);
        Build.factors(y, 0, 0, 1, 1);
        y.run(0, 200);
        looks.left("IF b", y, 1, 0, 1, 2);
        looks.left("IF c", y, 2, 1, 2, 3);
        // 1 was left out, but lies between LEAST and MOST: it is possible for the others, not for a.
        LinearReach z = Build.names(0, 2, 0, 9);
        z.row(8, 0, 0, 0, 3);
        Build.factors(z, 0, 0, 1);
        z.leave(0, 1);
        check.due("IF with a gap: run", z.run(0, 200), 1);
        LinearReach w = Build.names(0, 1);
        w.row(8, 0, 0, 0, -1);
        w.run(0, 200);
        looks.left("IF without a sum", w, 0, 0);
    }

    private static void count() {
        LinearReach x = Build.names(-5, 5, 2, 2, 0, 4, 3, 9);
        x.row(9, 0, 0, 0, 2);
        Build.factors(x, 0, 0, 1, -9, 4);
        x.run(0, 200);
        looks.left("COUNT a", x, 0, 1, 2);
        LinearReach y = Build.names(2, 2, 0, 2, 0, 2);
        y.row(9, 0, 0, 0, 1);
        Build.factors(y, 0, 0, 1, 1);
        y.run(0, 200);
        looks.left("COUNT b", y, 1, 1);
        looks.left("COUNT c", y, 2, 1);
        LinearReach z = Build.names(1, 1, 1, 1, 0, 2);
        z.row(9, 0, 0, 0, 1);
        Build.factors(z, 0, 0, 1, 1);
        z.run(0, 200);
        looks.left("COUNT: there is one already", z, 2, 0, 2);
        LinearReach w = Build.names(0, 3, 0, 9);
        w.row(9, 0, 0, 0, 1000);
        Build.factors(w, 0, 0, 1);
        w.run(0, 200);
        looks.left("COUNT of what no name can be", w, 0, 0);
    }

    /** A row that is about no name takes nothing, though it can't hold. */
    private static void aboutNothing() {
        LinearReach x = Build.names(0, 3);
        x.row(0, 0, 0, 0, -1);
        x.row(1, 0, 0, 0, 5);
        check.due("about nothing: run", x.run(0, 200), 1);
        check.due("about nothing: steps", x.steps(), 0);
        check.due("about nothing: plans", x.plans(), 0);
        x.factor(0, 0, 1);
        x.factor(0, 0, 0);
        check.due("a factor that is 0 again", x.run(0, 200), 1);
    }

    public static void main(String[] args) {
        atMost();
        just();
        product();
        quotient();
        amount();
        greatestAndLeast();
        unlike();
        ifTrue();
        count();
        aboutNothing();
        check.finish();
    }
}
