/** Promises 1, 2, 3 and 6: a new object, name, leave, clear; and what begins anew. */
public final class NamesTest {
    private static final Check check = new Check();

    private static void newObject() {
        LinearReach x = new LinearReach();
        check.due("new: steps()", x.steps(), 0);
        check.due("new: clash()", x.clash(), Check.NONE);
        check.due("new: plans()", x.plans(), 1);
        check.due("new: has(0, 0)", x.has(0, 0), Check.OUTSIDE);
        check.due("new: size(0)", x.size(0), Check.OUTSIDE);
        check.due("new: end(0, true)", x.end(0, true), Check.OUTSIDE);
        check.due("new: leave(0, 0)", x.leave(0, 0), Check.OUTSIDE);
        check.due("new: factor(0, 0, 0)", x.factor(0, 0, 0), Check.OUTSIDE);
        check.due("new: row(8, 0, 0, 0, 0)", x.row(8, 0, 0, 0, 0), Check.OUTSIDE);
        check.due("new: run(1, 200)", x.run(1, 200), 1);
        check.due("new: clear()", x.clear(), 0);
        LinearReach other = new LinearReach();
        other.name(0, 1);
        check.due("another object's name is not of this one", x.size(0), Check.OUTSIDE);
    }

    private static void names() {
        LinearReach x = new LinearReach();
        int[][] wrong = {{-33, 0}, {0, 32}, {5, 4}, {32, 32}, {-33, -33}, {31, -32},
            {Integer.MIN_VALUE, 0}, {0, Integer.MAX_VALUE}, {Integer.MIN_VALUE, Integer.MAX_VALUE}};
        int[][] fitting = {{-32, 31}, {-32, -32}, {31, 31}, {0, 0}, {-5, 7}, {-1, 0}, {-32, 0}, {0, 31}};
        for (int i = 0; i < fitting.length; i++) {
            for (int[] one : wrong) {
                check.due("name(" + one[0] + ", " + one[1] + ")", x.name(one[0], one[1]), Check.OUTSIDE);
            }
            int low = fitting[i][0];
            int high = fitting[i][1];
            check.due("name(" + low + ", " + high + ")", x.name(low, high), i);
            check.due("size", x.size(i), high - low + 1);
            int[] asked = {-33, -32, low - 1, low, (low + high) / 2, high, high + 1, 31, 32};
            for (int v : asked) {
                check.due("has(" + i + ", " + v + ")", x.has(i, v), low <= v && v <= high ? 1 : 0);
            }
        }
        check.due("a ninth name", x.name(0, 0), Check.ROOM);
        check.due("a ninth name out of bounds", x.name(1, 0), Check.OUTSIDE);
        check.due("no ninth name", x.size(8), Check.OUTSIDE);
    }

    private static void leaving() {
        LinearReach x = new LinearReach();
        x.name(-32, 31);
        x.name(3, 5);
        check.due("leave(2, 0)", x.leave(2, 0), Check.OUTSIDE);
        check.due("leave(-1, 0)", x.leave(-1, 0), Check.OUTSIDE);
        check.due("leave(0, -33)", x.leave(0, -33), Check.OUTSIDE);
        check.due("leave(0, 32)", x.leave(0, 32), Check.OUTSIDE);
        check.due("leave(0, least int)", x.leave(0, Integer.MIN_VALUE), Check.OUTSIDE);
        check.due("leave(0, -32)", x.leave(0, -32), 1);
        check.due("leave(0, -32) again", x.leave(0, -32), 0);
        check.due("leave(0, 31)", x.leave(0, 31), 1);
        check.due("leave(0, 0)", x.leave(0, 0), 1);
        check.due("size(0)", x.size(0), 61);
        check.due("end(0, false)", x.end(0, false), -31);
        check.due("end(0, true)", x.end(0, true), 30);
        check.due("has(0, 0)", x.has(0, 0), 0);
        check.due("leave(1, 2)", x.leave(1, 2), 0);
        check.due("leave(1, 3)", x.leave(1, 3), 1);
        check.due("leave(1, 5)", x.leave(1, 5), 1);
        check.due("the only one", x.leave(1, 4), Check.STATE);
        check.due("beside the only one", x.leave(1, 5), 0);
        check.due("has(1, 4)", x.has(1, 4), 1);
        check.due("no such number comes before the only one", x.leave(1, 40), Check.OUTSIDE);
    }

    /** What is left out is left out of FIRST, not of the set as it is after a run. */
    private static void leavingIsOfFirst() {
        LinearReach x = clashed();
        check.due("3 was taken, but is in FIRST", x.leave(0, 3), 1);
        check.due("FIRST without 3", x.size(0), 3);
        LinearReach one = clashed();
        check.due("row to at most 0", one.row(0, 0, 0, 0, 0), 1);
        check.due("factor", one.factor(1, 0, 1), 0);
        check.due("factor", one.factor(0, 0, 0), 1);
        check.due("run", one.run(0, 200), 2);
        check.due("only 0 is left now", one.size(0), 1);
        check.due("0 is not FIRST's only one", one.leave(0, 0), 1);
    }

    /** Name 0 has 0 .. 3, and row 0 wants it to be at most -1; all is taken. */
    private static LinearReach clashed() {
        LinearReach x = new LinearReach();
        x.name(0, 3);
        x.row(0, 0, 0, 0, -1);
        x.factor(0, 0, 1);
        check.due("run to a clash", x.run(0, 200), 0);
        check.due("its steps", x.steps(), 4);
        check.due("its clash", x.clash(), 0);
        return x;
    }

    private static void isAnew(String after, LinearReach x) {
        check.due(after + ": steps()", x.steps(), 0);
        check.due(after + ": clash()", x.clash(), Check.NONE);
        check.due(after + ": step(0, 0)", x.step(0, 0), Check.OUTSIDE);
        check.due(after + ": size(0)", x.size(0), 4);
    }

    private static void isAsItWas(String after, LinearReach x) {
        check.due(after + ": steps()", x.steps(), 4);
        check.due(after + ": clash()", x.clash(), 0);
        check.due(after + ": size(0)", x.size(0), 0);
        check.due(after + ": run(0, 1)", x.run(0, 1), 0);
    }

    private static void beginsAnew() {
        LinearReach x = clashed();
        x.name(0, 0);
        isAnew("name", x);
        x = clashed();
        check.due("leave of what is not there", x.leave(0, 9), 0);
        isAnew("leave", x);
        x = clashed();
        x.row(0, 0, 0, 0, 0);
        isAnew("row", x);
        x = clashed();
        check.due("the same factor", x.factor(0, 0, 1), 1);
        isAnew("factor", x);
        check.due("the rounds are counted anew", x.run(0, 1), 0);
        check.due("from 1 on", x.step(0, 3), 1);
    }

    private static void refusedChangesNothing() {
        LinearReach x = clashed();
        x.name(1, 0);
        x.leave(1, 0);
        x.row(0, 0, 0, 0, 1001);
        x.row(2, 0, 0, 0, 0);
        x.factor(1, 0, 0);
        x.factor(0, 0, 10);
        x.run(2, 1);
        isAsItWas("refused calls", x);
        for (int i = 0; i < 7; i++) {
            x.name(0, 0);
        }
        for (int i = 1; i < 12; i++) {
            check.due("row " + i, x.row(0, 0, 0, 0, 0), i);
        }
        x.run(0, 200);
        check.due("a ninth name", x.name(0, 0), Check.ROOM);
        check.due("a thirteenth row", x.row(0, 0, 0, 0, 0), Check.ROOM);
        check.due("the only number", x.leave(1, 0), Check.STATE);
        isAsItWas("calls without room", x);
    }

    private static void clearing() {
        LinearReach x = clashed();
        x.name(1, 2);
        x.name(1, 2);
        check.due("clear()", x.clear(), 3);
        check.due("clear() again", x.clear(), 0);
        check.due("no names", x.size(0), Check.OUTSIDE);
        check.due("no rows", x.factor(0, 0, 1), Check.OUTSIDE);
        check.due("a first name", x.name(-4, 4), 0);
        check.due("its size", x.size(0), 9);
        check.due("no row is there", x.factor(0, 0, 1), Check.OUTSIDE);
        check.due("nothing to take", x.run(0, 200), 1);
        check.due("a first row", x.row(0, 0, 0, 0, -1), 0);
        check.due("without the factor of the row before", x.run(0, 200), 1);
        check.due("it was 0 at first", x.factor(0, 0, 2), 0);
        LinearReach y = clashed();
        y.clear();
        check.due("no steps", y.steps(), 0);
        check.due("no clash", y.clash(), Check.NONE);
    }

    public static void main(String[] args) {
        newObject();
        names();
        leaving();
        leavingIsOfFirst();
        beginsAnew();
        refusedChangesNothing();
        clearing();
        check.finish();
    }
}
