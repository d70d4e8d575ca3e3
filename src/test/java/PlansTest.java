/** Promise 17: plans. */
public final class PlansTest {
    private static final Check check = new Check();

    private static void withoutNames() {
        int[][] due = {{0, -1, 0}, {0, 0, 1}, {0, 1000, 1}, {0, -1000, 0}, {1, 0, 1}, {1, 1, 0}, {1, -1, 0}};
        for (int[] one : due) {
            LinearReach x = new LinearReach();
            check.due("no names, no rows", x.plans(), 1);
            x.row(one[0], 0, 0, 0, one[1]);
            check.due("kind " + one[0] + " right " + one[1], x.plans(), one[2]);
            x.row(0, 0, 0, 0, 5);
            check.due("and a row that holds", x.plans(), one[2]);
        }
    }

    private static void atTheLimit() {
        LinearReach x = new LinearReach();
        x.name(0, 19);
        check.due("20", x.plans(), 20);
        x.name(0, 19);
        check.due("400", x.plans(), 400);
        x.name(0, 9);
        check.due("4000", x.plans(), 4000);
        x.name(7, 7);
        check.due("4000 times 1", x.plans(), 4000);
        x.name(7, 8);
        check.due("8000", x.plans(), Check.NONE);
        x.leave(4, 7);
        check.due("4000 again", x.plans(), 4000);
        x.clear();
        x.name(-31, 31);
        x.name(-31, 31);
        check.due("63 times 63", x.plans(), 3969);
        x.clear();
        x.name(-32, 31);
        x.name(-31, 31);
        check.due("64 times 63", x.plans(), Check.NONE);
        for (int i = 2; i < 8; i++) {
            x.name(-32, 31);
        }
        check.due("nearly 64 to the power of 8", x.plans(), Check.NONE);
        x.clear();
        x.name(0, 30);
        x.name(0, 2);
        x.name(0, 10);
        x.name(0, 3);
        check.due("31 times 3 times 11 times 4", x.plans(), Check.NONE);
    }

    /** The sets as they are now: a run makes them small enough. */
    private static void ofTheSetsNow() {
        LinearReach x = new LinearReach();
        x.name(0, 31);
        x.name(0, 31);
        x.name(0, 31);
        x.row(0, 0, 0, 0, 3);
        x.factor(0, 0, 1);
        x.factor(0, 1, 1);
        x.factor(0, 2, 1);
        check.due("before", x.plans(), Check.NONE);
        x.run(0, 200);
        check.due("three numbers with a sum of at most 3", x.plans(), 20);
        x.row(1, 0, 0, 0, 3);
        x.factor(1, 0, 1);
        x.factor(1, 1, 1);
        x.factor(1, 2, 1);
        x.run(0, 200);
        check.due("with a sum of 3", x.plans(), 10);
        x.row(7, 0, 1, 0, 0);
        x.run(0, 200);
        check.due("the first two unlike", x.plans(), 8);
    }

    /** After a clash one set is empty; the others may be as large as they like. */
    private static void afterAClash() {
        for (int empty = 0; empty < 8; empty++) {
            LinearReach x = new LinearReach();
            for (int i = 0; i < 8; i++) {
                x.name(-32, 31);
            }
            x.row(0, 0, 0, 0, -1000);
            x.factor(0, empty, 1);
            check.due("before", x.plans(), Check.NONE);
            check.due("clash", x.run(0, 1), 0);
            check.due("after", x.plans(), 0);
            check.due("asking takes nothing", x.steps(), 64);
        }
    }

    /** How many of 1331 or 121 choices of -5 .. 5 each kind holds with, counted here anew. */
    private static void eachKind() {
        for (int kind = 2; kind <= 7; kind++) {
            LinearReach x = new LinearReach();
            for (int i = 0; i < 3; i++) {
                x.name(-5, 5);
            }
            x.row(kind, 2, 0, 1, 2);
            int found = 0;
            for (int a = -5; a <= 5; a++) {
                for (int b = -5; b <= 5; b++) {
                    for (int c = -5; c <= 5; c++) {
                        found += holds(kind, a, b, c) ? 1 : 0;
                    }
                }
            }
            check.due("kind " + kind, x.plans(), found);
        }
    }

    private static boolean holds(int kind, int a, int b, int c) {
        return switch (kind) {
            case 2 -> a == b * c;
            case 3 -> c != 0 && Math.floor(b / (double) c) == a;
            case 4 -> a == b || a == -b ? a >= 0 : false;
            case 5 -> (a == b || a == c) && a >= b && a >= c;
            case 6 -> (a == b || a == c) && a <= b && a <= c;
            default -> a - b != 2;
        };
    }

    private static void ifAndCount() {
        LinearReach x = new LinearReach();
        x.name(0, 2);
        x.name(0, 3);
        x.name(0, 3);
        int row = x.row(8, 0, 0, 0, 2);
        x.factor(row, 1, 1);
        x.factor(row, 2, 1);
        // Of 16 pairs 6 have a sum of at most 2.
        check.due("IF", x.plans(), 16 + 6 + 16);
        x.clear();
        x.name(0, 2);
        x.name(0, 3);
        x.name(0, 3);
        row = x.row(9, 0, 0, 0, 3);
        x.factor(row, 1, -2);
        x.factor(row, 2, 9);
        check.due("COUNT, each pair with one count", x.plans(), 16);
        x.leave(0, 1);
        check.due("COUNT, none or both", x.plans(), 9 + 1);
        x.factor(row, 2, 0);
        check.due("COUNT of one name, not 3", x.plans(), 3 * 4);
    }

    public static void main(String[] args) {
        withoutNames();
        atTheLimit();
        ofTheSetsNow();
        afterAClash();
        eachKind();
        ifAndCount();
        check.finish();
    }
}
