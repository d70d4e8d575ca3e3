/** Promises 4 and 5: row, factor. */
public final class RowsTest {
    private static final Check check = new Check();
    private static final int[] NAMED = {0, 0, 3, 3, 2, 3, 3, 2, 1, 1};

    private static LinearReach withNames(int count) {
        LinearReach x = new LinearReach();
        for (int i = 0; i < count; i++) {
            x.name(0, 1);
        }
        return x;
    }

    /** Three places each of which is a name, or none, or the same as another. */
    private static void placesOfEachKind() {
        int[] tried = {-1, 0, 1, 2, 3, Integer.MIN_VALUE, Integer.MAX_VALUE};
        for (int kind = 0; kind <= 9; kind++) {
            for (int a : tried) {
                for (int b : tried) {
                    for (int c : tried) {
                        String call = "row(" + kind + ", " + a + ", " + b + ", " + c + ", 0)";
                        check.due(call, withNames(3).row(kind, a, b, c, 0), dueOf(kind, a, b, c));
                    }
                }
            }
        }
    }

    private static int dueOf(int kind, int a, int b, int c) {
        int[] told = {a, b, c};
        for (int i = 0; i < NAMED[kind]; i++) {
            if (told[i] < 0 || told[i] > 2 || i > 0 && told[i] == a || i > 1 && told[i] == b) {
                return Check.OUTSIDE;
            }
        }
        return 0;
    }

    private static void kindsAndRights() {
        LinearReach x = withNames(3);
        int[] noKinds = {-1, 10, 11, Integer.MIN_VALUE, Integer.MAX_VALUE};
        for (int kind : noKinds) {
            check.due("kind " + kind, x.row(kind, 0, 1, 2, 0), Check.OUTSIDE);
        }
        for (int kind = 0; kind <= 9; kind++) {
            check.due("right 1001", x.row(kind, 0, 1, 2, 1001), Check.OUTSIDE);
            check.due("right -1001", x.row(kind, 0, 1, 2, -1001), Check.OUTSIDE);
            check.due("the least right", x.row(kind, 0, 1, 2, Integer.MIN_VALUE), Check.OUTSIDE);
        }
        for (int kind = 0; kind <= 9; kind++) {
            check.due("row " + kind, x.row(kind, 0, 1, 2, kind % 2 == 0 ? 1000 : -1000), kind);
        }
        check.due("row 10", x.row(4, 1, 0, 0, 0), 10);
        check.due("row 11", x.row(0, 0, 0, 0, 0), 11);
        check.due("row 12", x.row(0, 0, 0, 0, 0), Check.ROOM);
        check.due("no kind is told before no room", x.row(10, 0, 0, 0, 0), Check.OUTSIDE);
        check.due("the same name is told before no room", x.row(4, 1, 1, 0, 0), Check.OUTSIDE);
    }

    private static void factors() {
        LinearReach x = withNames(3);
        int[] kinds = {0, 1, 8, 9};
        for (int i = 0; i < kinds.length; i++) {
            x.row(kinds[i], 2, 0, 0, 0);
            check.due("at first", x.factor(i, 0, 9), 0);
            check.due("then", x.factor(i, 0, -9), 9);
            check.due("then", x.factor(i, 0, 0), -9);
            check.due("then", x.factor(i, 0, 0), 0);
            check.due("another name", x.factor(i, 1, 3), 0);
            check.due("10", x.factor(i, 1, 10), Check.OUTSIDE);
            check.due("-10", x.factor(i, 1, -10), Check.OUTSIDE);
            check.due("no such name", x.factor(i, 3, 1), Check.OUTSIDE);
            check.due("no such name", x.factor(i, -1, 1), Check.OUTSIDE);
            check.due("nothing changed", x.factor(i, 1, 4), 3);
            check.due("its a", x.factor(i, 2, 1), kinds[i] < 2 ? 0 : Check.STATE);
            check.due("its a, 0", x.factor(i, 2, 0), kinds[i] < 2 ? 1 : Check.STATE);
            check.due("its a, out of bounds", x.factor(i, 2, 10), Check.OUTSIDE);
            check.due("no such row", x.factor(i + 1, 0, 1), Check.OUTSIDE);
            check.due("no such row", x.factor(-1, 0, 1), Check.OUTSIDE);
        }
        check.due("rows have factors of their own", x.factor(0, 1, 0), 4);
    }

    private static void kindsWithoutFactors() {
        for (int kind = 2; kind <= 7; kind++) {
            LinearReach x = withNames(4);
            x.row(kind, 0, 1, 2, 0);
            for (int name = 0; name < 4; name++) {
                check.due("kind " + kind + " factor of " + name, x.factor(0, name, 1), Check.STATE);
            }
            check.due("no such name", x.factor(0, 4, 1), Check.OUTSIDE);
            check.due("no such factor", x.factor(0, 0, 10), Check.OUTSIDE);
        }
    }

    /** A name that comes after the row has a factor in it, too. */
    private static void factorOfALaterName() {
        LinearReach x = new LinearReach();
        check.due("a row without names", x.row(0, 0, 0, 0, 4), 0);
        x.name(0, 9);
        check.due("factor", x.factor(0, 0, 2), 0);
        x.run(0, 200);
        check.due("end(0, true)", x.end(0, true), 2);
        check.due("another name", x.name(1, 9), 1);
        check.due("the factor stays", x.factor(0, 0, 2), 2);
        check.due("its factor", x.factor(0, 1, 1), 0);
        x.run(0, 200);
        check.due("end(0, true)", x.end(0, true), 1);
        check.due("end(1, true)", x.end(1, true), 4);
    }

    public static void main(String[] args) {
        placesOfEachKind();
        kindsAndRights();
        factors();
        kindsWithoutFactors();
        factorOfALaterName();
        check.finish();
    }
}
